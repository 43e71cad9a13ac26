section
/-! A REFLECTED MACHINE, part 1: numbers by symbols, values, cells; what they are worth. Symbol + offset is a number; symbol 0 is worth 0. -/
abbrev rx_E : Type := Nat × Int
/-- null, a cell by its place | kind (0 int, 1 long, 2 a cell outside, by its place) and number -/
abbrev rx_V : Type := Option Nat ⊕ (Nat × rx_E)
/-- a known value | a kind and bounds -/
abbrev rx_X : Type := rx_V ⊕ (Nat × Int × Int)
abbrev rx_I : Type := List (Int × Int)
/-- facts: 0 <, 1 ≤, 2 =, 3 ≠ -/
abbrev rx_F : Type := List (Nat × rx_E × rx_E)
/-- a row: kind of its entries (0 int, 1 boolean, 2 long, 3 byte, 4 char, 5 + class), length, what an entry is, what some are -/
abbrev rx_A : Type := Nat × Nat × rx_X × List (Nat × rx_V)
abbrev rx_C : Type := (Nat × List rx_X) ⊕ rx_A
def rx_ev (r : Nat → Int) (e : rx_E) : Int := r e.1 + e.2
def rx_iv (r : Nat → Int) (ad xa : Nat → Nat) (v : rx_V) : Value := match v with
  | .inl none => .null
  | .inl (some k) => .ref (ad k)
  | .inr (0, e) => .int (Int32.ofInt (rx_ev r e))
  | .inr (1, e) => .long (Int64.ofInt (rx_ev r e))
  | .inr (_ + 2, e) => .ref (xa e.2.toNat)
/-- a value speaks of N symbols, of M cells alone -/
def rx_sc (N M : Nat) (v : rx_V) : Prop := match v with
  | .inl none => True
  | .inl (some k) => k < M
  | .inr (_, e) => e.1 < N
def rx_ok (r : Nat → Int) (ad xa : Nat → Nat) (x : rx_X) (w : Value) : Prop := match x with
  | .inl v => w = rx_iv r ad xa v
  | .inr (0, lo, hi) => ∃ i : Int32, w = .int i ∧ lo ≤ i.toInt ∧ i.toInt ≤ hi
  | .inr (_ + 1, lo, hi) => ∃ i : Int64, w = .long i ∧ lo ≤ i.toInt ∧ i.toInt ≤ hi
def rx_xsc (N M : Nat) (x : rx_X) : Prop := match x with
  | .inl v => rx_sc N M v
  | .inr _ => True
def rx_lk : List (Nat × rx_V) → Nat → Option rx_V
  | [], _ => none
  | q :: l, i => if q.1 = i then some q.2 else rx_lk l i
theorem rx_lk_mem : ∀ {l : List (Nat × rx_V)} {i : Nat} {v : rx_V}, rx_lk l i = some v → (i, v) ∈ l
  | [], _, _, h => by cases h
  | q :: l, i, v, h => by
    rw [rx_lk] at h
    split at h
    · rename_i e
      cases h
      subst e
      exact List.mem_cons_self
    · exact List.mem_cons_of_mem _ (rx_lk_mem h)
def rx_gt (ov : List (Nat × rx_V)) (df : rx_X) (j : Nat) : rx_X := match rx_lk ov j with
  | some v => .inl v
  | none => df
abbrev rx_cont : Type := (Nat → Int32) ⊕ (Nat → Int64) ⊕ (Nat → UInt32) ⊕ (Nat → UInt64) ⊕ (Nat → Option Nat)
def rx_el (c : rx_cont) (j : Nat) : Value := match c with
  | .inl f => .int (f j)
  | .inr (.inl f) => .long (f j)
  | .inr (.inr (.inl f)) => .float (f j)
  | .inr (.inr (.inr (.inl f))) => .double (f j)
  | .inr (.inr (.inr (.inr f))) => va_rf (f j)
def rx_sh (tc : Nat) (c : rx_cont) : Prop := match tc with
  | 0 => ∃ f, c = .inl f
  | 1 => ∃ f, c = .inl f
  | 2 => ∃ f, c = .inr (.inl f)
  | 3 => ∃ f, c = .inl f
  | 4 => ∃ f, c = .inl f
  | _ + 5 => ∃ f, c = .inr (.inr (.inr (.inr f)))
def rx_ty (cl : List vw_C) (tc : Nat) : FieldType := match tc with
  | 0 => .int
  | 1 => .boolean
  | 2 => .long
  | 3 => .byte
  | 4 => .char
  | n + 5 => .object ((cl[n]?).elim "" (fun q => q.1))
def rx_cell (cl : List vw_C) (tys : List (ClassId × FieldType)) (r : Nat → Int) (ad xa : Nat → Nat) (x : rx_C) (e : va_E) : Prop := match x with
  | .inl (ci, fs) => ∃ vs : List Value, e = .inr (ci, vs) ∧ vs.length = fs.length ∧ ∀ (k : Nat) (f : rx_X), fs[k]? = some f → ∃ w : Value, vs[k]? = some w ∧ rx_ok r ad xa f w
  | .inr (tc, n, df, ov) => ∃ (cA : ClassId) (t0 : Nat) (c : rx_cont), e = .inl (cA, n, c) ∧ tys[t0]? = some (cA, rx_ty cl tc) ∧ rx_sh tc c ∧ ∀ j : Nat, j < n → rx_ok r ad xa (rx_gt ov df j) (rx_el c j)
def rx_csc (N M : Nat) (x : rx_C) : Prop := match x with
  | .inl (_, fs) => ∀ (k : Nat) (f : rx_X), fs[k]? = some f → rx_xsc N M f
  | .inr (_, n, df, ov) => ∀ j : Nat, j < n → rx_xsc N M (rx_gt ov df j)
def rx_sat (I : rx_I) (r : Nat → Int) : Prop := r 0 = 0 ∧ 8 ≤ I.length ∧ ∀ (n : Nat) (lo hi : Int), I[n]? = some (lo, hi) → lo ≤ r n ∧ r n ≤ hi
theorem rx_pos {I : rx_I} {r : Nat → Int} (h : rx_sat I r) : 0 < I.length := Nat.lt_of_lt_of_le (Nat.le_of_ble_eq_true rfl) h.2.1
def rx_fact (r : Nat → Int) (f : Nat × rx_E × rx_E) : Prop := match f.1 with
  | 0 => rx_ev r f.2.1 < rx_ev r f.2.2
  | 1 => rx_ev r f.2.1 ≤ rx_ev r f.2.2
  | 2 => rx_ev r f.2.1 = rx_ev r f.2.2
  | _ => rx_ev r f.2.1 ≠ rx_ev r f.2.2
def rx_fsc (N : Nat) (F : rx_F) : Prop := ∀ f ∈ F, f.2.1.1 < N ∧ f.2.2.1 < N
def rx_facts (F : rx_F) (r : Nat → Int) : Prop := ∀ f ∈ F, rx_fact r f
def rx_same (N : Nat) (r r' : Nat → Int) : Prop := ∀ n, n < N → r' n = r n
def rx_sameA (M : Nat) (a a' : Nat → Nat) : Prop := ∀ n, n < M → a' n = a n
/-- the world: the cells ht, at the addresses ad -/
def rx_W (D : va_G) (cl : List vw_C) (A : Nat → Prop) (s : State) (xa : Nat → Nat) (N : Nat) (ht : List rx_C) (r : Nat → Int) (ad : Nat → Nat) (H0 H : Heap) (locs : List Loc) : Prop :=
  ∃ (ws : va_W) (tys : List (ClassId × FieldType)), va_K D cl tys s ∧ va_P D cl ws H ∧ va_D A ws ∧ va_S A H0 H locs ∧ ws.length = ht.length ∧
    ∀ (k : Nat) (x : rx_C), ht[k]? = some x → rx_csc N ht.length x ∧ ∃ e : va_E, ws[k]? = some (ad k, e) ∧ rx_cell cl tys r ad xa x e
-- what stays when symbols and cells come
theorem rx_same.rf {N : Nat} {r : Nat → Int} : rx_same N r r := fun _ _ => rfl
theorem rx_sameA.rf {N : Nat} {r : Nat → Nat} : rx_sameA N r r := fun _ _ => rfl
theorem rx_same.tr {N N' : Nat} {r r' r2 : Nat → Int} (h : rx_same N r r') (h2 : rx_same N' r' r2) (hN : N ≤ N') : rx_same N r r2 := fun n hn => (h2 n (Nat.lt_of_lt_of_le hn hN)).trans (h n hn)
theorem rx_sameA.tr {N N' : Nat} {r r' r2 : Nat → Nat} (h : rx_sameA N r r') (h2 : rx_sameA N' r' r2) (hN : N ≤ N') : rx_sameA N r r2 := fun n hn => (h2 n (Nat.lt_of_lt_of_le hn hN)).trans (h n hn)
theorem rx_iv_ext {N M : Nat} {r r' : Nat → Int} {ad ad' xa : Nat → Nat} {v : rx_V} (h : rx_sc N M v) (hr : rx_same N r r') (ha : rx_sameA M ad ad') : rx_iv r' ad' xa v = rx_iv r ad xa v := by
  match v, h with
  | .inl none, _ => rfl
  | .inl (some k), h => exact congrArg Value.ref (ha k h)
  | .inr (0, e), h =>
    show Value.int (Int32.ofInt (r' e.1 + e.2)) = Value.int (Int32.ofInt (r e.1 + e.2))
    rw [hr e.1 h]
  | .inr (1, e), h =>
    show Value.long (Int64.ofInt (r' e.1 + e.2)) = Value.long (Int64.ofInt (r e.1 + e.2))
    rw [hr e.1 h]
  | .inr (_ + 2, e), _ => rfl
theorem rx_sc.mono {N M N' M' : Nat} {v : rx_V} (h : rx_sc N M v) (hN : N ≤ N') (hM : M ≤ M') : rx_sc N' M' v := by
  match v, h with
  | .inl none, _ => exact trivial
  | .inl (some k), h => exact Nat.lt_of_lt_of_le h hM
  | .inr (_, e), h => exact Nat.lt_of_lt_of_le h hN
theorem rx_xsc.mono {N M N' M' : Nat} {x : rx_X} (h : rx_xsc N M x) (hN : N ≤ N') (hM : M ≤ M') : rx_xsc N' M' x := by
  match x, h with
  | .inl v, h => exact rx_sc.mono (v := v) h hN hM
  | .inr _, _ => exact trivial
theorem rx_csc.mono {N M N' M' : Nat} {x : rx_C} (h : rx_csc N M x) (hN : N ≤ N') (hM : M ≤ M') : rx_csc N' M' x := by
  match x, h with
  | .inl (_, fs), h => exact fun k f hk => rx_xsc.mono (h k f hk) hN hM
  | .inr (_, n, df, ov), h => exact fun j hj => rx_xsc.mono (h j hj) hN hM
theorem rx_ok_ext {N M : Nat} {r r' : Nat → Int} {ad ad' xa : Nat → Nat} {x : rx_X} {w : Value} (h : rx_ok r ad xa x w) (hs : rx_xsc N M x) (hr : rx_same N r r') (ha : rx_sameA M ad ad') : rx_ok r' ad' xa x w := by
  match x, h, hs with
  | .inl v, h, hs => exact h.trans (rx_iv_ext (v := v) hs hr ha).symm
  | .inr (0, lo, hi), h, _ => exact h
  | .inr (_ + 1, lo, hi), h, _ => exact h
theorem rx_cell_ext {N M : Nat} {cl : List vw_C} {tys : List (ClassId × FieldType)} {r r' : Nat → Int} {ad ad' xa : Nat → Nat} {x : rx_C} {e : va_E} (h : rx_cell cl tys r ad xa x e) (hs : rx_csc N M x) (hr : rx_same N r r') (ha : rx_sameA M ad ad') : rx_cell cl tys r' ad' xa x e := by
  match x, h, hs with
  | .inl (ci, fs), h, hs =>
    obtain ⟨vs, h1, h2, h3⟩ := h
    refine ⟨vs, h1, h2, fun k f hk => ?_⟩
    obtain ⟨w, h4, h5⟩ := h3 k f hk
    exact ⟨w, h4, rx_ok_ext h5 (hs k f hk) hr ha⟩
  | .inr (tc, n, df, ov), h, hs =>
    obtain ⟨cA, t0, c, h1, h2, h3, h4⟩ := h
    exact ⟨cA, t0, c, h1, h2, h3, fun j hj => rx_ok_ext (h4 j hj) (hs j hj) hr ha⟩
theorem rx_cell_tys {cl : List vw_C} {tys t2 : List (ClassId × FieldType)} {r : Nat → Int} {ad xa : Nat → Nat} {x : rx_C} {e : va_E} (h : rx_cell cl tys r ad xa x e) : rx_cell cl (tys ++ t2) r ad xa x e := by
  match x, h with
  | .inl (ci, fs), h => exact h
  | .inr (tc, n, df, ov), h =>
    obtain ⟨cA, t0, c, h1, h2, h3, h4⟩ := h
    exact ⟨cA, t0, c, h1, by rw [List.getElem?_append_left (List.getElem?_eq_some_iff.mp h2).1]; exact h2, h3, h4⟩
theorem rx_fact_ext {N : Nat} {r r' : Nat → Int} {f : Nat × rx_E × rx_E} (h : rx_fact r f) (h1 : f.2.1.1 < N) (h2 : f.2.2.1 < N) (hr : rx_same N r r') : rx_fact r' f := by
  have e1 : rx_ev r' f.2.1 = rx_ev r f.2.1 := by unfold rx_ev; rw [hr _ h1]
  have e2 : rx_ev r' f.2.2 = rx_ev r f.2.2 := by unfold rx_ev; rw [hr _ h2]
  unfold rx_fact at h ⊢
  rw [e1, e2]
  exact h
theorem rx_facts_ext {N : Nat} {r r' : Nat → Int} {F : rx_F} (h : rx_facts F r) (hs : rx_fsc N F) (hr : rx_same N r r') : rx_facts F r' := fun f hf => rx_fact_ext (h f hf) (hs f hf).1 (hs f hf).2 hr
theorem rx_W.ext {D : va_G} {cl : List vw_C} {A : Nat → Prop} {s : State} {xa : Nat → Nat} {N N' : Nat} {ht : List rx_C} {r r' : Nat → Int} {ad ad' : Nat → Nat} {H0 H : Heap} {locs : List Loc} (h : rx_W D cl A s xa N ht r ad H0 H locs) (hN : N ≤ N') (hr : rx_same N r r') (ha : rx_sameA ht.length ad ad') : rx_W D cl A s xa N' ht r' ad' H0 H locs := by
  obtain ⟨ws, tys, hK, hP, hD, hS, hl, hc⟩ := h
  refine ⟨ws, tys, hK, hP, hD, hS, hl, fun k x hk => ?_⟩
  obtain ⟨h1, e, h2, h3⟩ := hc k x hk
  have hk2 : k < ht.length := (List.getElem?_eq_some_iff.mp hk).1
  exact ⟨rx_csc.mono h1 hN (Nat.le_refl _), e, by rw [ha k hk2]; exact h2, rx_cell_ext h3 h1 hr ha⟩
/-- one more symbol -/
def rx_up (r : Nat → Int) (n : Nat) (z : Int) : Nat → Int := fun j => if j = n then z else r j
theorem rx_up_self {r : Nat → Int} {n : Nat} {z : Int} : rx_up r n z n = z := by simp [rx_up]
theorem rx_up_same {r : Nat → Int} {n : Nat} {z : Int} : rx_same n r (rx_up r n z) := fun j hj => by
  unfold rx_up
  rw [if_neg (Nat.ne_of_lt hj)]
theorem rx_sat_up {I : rx_I} {r : Nat → Int} {z lo hi : Int} (h : rx_sat I r) (h1 : lo ≤ z) (h2 : z ≤ hi) : rx_sat (I ++ [(lo, hi)]) (rx_up r I.length z) := by
  refine ⟨(rx_up_same 0 (rx_pos h)).trans h.1, by rw [List.length_append]; exact Nat.le_trans h.2.1 (Nat.le_add_right _ _), ?_⟩
  intro n a b hn
  by_cases hl : n < I.length
  · rw [List.getElem?_append_left hl] at hn
    rw [rx_up_same n hl]
    exact h.2.2 n a b hn
  · rw [List.getElem?_append_right (Nat.not_lt.mp hl)] at hn
    have hz : n - I.length < 1 := (List.getElem?_eq_some_iff.mp hn).1
    have e : n = I.length := by omega
    subst e
    rw [Nat.sub_self] at hn
    cases hn
    rw [rx_up_self]
    exact ⟨h1, h2⟩
-- numbers
theorem rx_i32 {z : Int} (h1 : -2147483648 ≤ z) (h2 : z ≤ 2147483647) : (Int32.ofInt z).toInt = z := Int32.toInt_ofInt_of_le (by omega) (by omega)
theorem rx_i64 {z : Int} (h1 : -9223372036854775808 ≤ z) (h2 : z ≤ 9223372036854775807) : (Int64.ofInt z).toInt = z := Int64.toInt_ofInt_of_le (by omega) (by omega)
theorem rx_b32 (x : Int32) : -2147483648 ≤ x.toInt ∧ x.toInt ≤ 2147483647 := by
  have h1 := x.toInt_lt
  have h2 := x.le_toInt
  omega
theorem rx_b64 (x : Int64) : -9223372036854775808 ≤ x.toInt ∧ x.toInt ≤ 9223372036854775807 := by
  have h1 := x.toInt_lt
  have h2 := x.le_toInt
  omega
-- bounds of a number
def rx_bd (I : rx_I) (e : rx_E) : Option (Int × Int) := match I[e.1]? with
  | some (lo, hi) => some (lo + e.2, hi + e.2)
  | none => none
theorem rx_bd_ok {I : rx_I} {e : rx_E} {lo hi : Int} {r : Nat → Int} (h : rx_sat I r) (hb : rx_bd I e = some (lo, hi)) : lo ≤ rx_ev r e ∧ rx_ev r e ≤ hi ∧ e.1 < I.length := by
  unfold rx_bd at hb
  split at hb
  · rename_i a b he
    cases hb
    have := h.2.2 _ _ _ he
    unfold rx_ev
    refine ⟨by omega, by omega, (List.getElem?_eq_some_iff.mp he).1⟩
  · cases hb
/-- bounds of an int: those of its number, where it fits -/
def rx_bi (I : rx_I) (e : rx_E) : Option (Int × Int) := match rx_bd I e with
  | some (lo, hi) => if -2147483648 ≤ lo ∧ hi ≤ 2147483647 then some (lo, hi) else none
  | none => none
theorem rx_bi_ok {I : rx_I} {e : rx_E} {lo hi : Int} {r : Nat → Int} (h : rx_sat I r) (hb : rx_bi I e = some (lo, hi)) : lo ≤ rx_ev r e ∧ rx_ev r e ≤ hi ∧ (Int32.ofInt (rx_ev r e)).toInt = rx_ev r e ∧ e.1 < I.length := by
  unfold rx_bi at hb
  split at hb
  · rename_i a b he
    split at hb
    · rename_i hc
      cases hb
      obtain ⟨h1, h2, h3⟩ := rx_bd_ok h he
      exact ⟨h1, h2, rx_i32 (by omega) (by omega), h3⟩
    · cases hb
  · cases hb
def rx_bl (I : rx_I) (e : rx_E) : Option (Int × Int) := match rx_bd I e with
  | some (lo, hi) => if -9223372036854775808 ≤ lo ∧ hi ≤ 9223372036854775807 then some (lo, hi) else none
  | none => none
theorem rx_bl_ok {I : rx_I} {e : rx_E} {lo hi : Int} {r : Nat → Int} (h : rx_sat I r) (hb : rx_bl I e = some (lo, hi)) : lo ≤ rx_ev r e ∧ rx_ev r e ≤ hi ∧ (Int64.ofInt (rx_ev r e)).toInt = rx_ev r e ∧ e.1 < I.length := by
  unfold rx_bl at hb
  split at hb
  · rename_i a b he
    split at hb
    · rename_i hc
      cases hb
      obtain ⟨h1, h2, h3⟩ := rx_bd_ok h he
      exact ⟨h1, h2, rx_i64 (by omega) (by omega), h3⟩
    · cases hb
  · cases hb
-- what is learnt of a symbol
def rx_cap (I : rx_I) (n : Nat) (a b : Int) : rx_I := match I[n]? with
  | some (lo, hi) => I.set n (if a ≤ lo then lo else a, if hi ≤ b then hi else b)
  | none => I
theorem rx_cap_len {I : rx_I} {n : Nat} {a b : Int} : (rx_cap I n a b).length = I.length := by
  unfold rx_cap
  split <;> simp
theorem rx_cap_ok {I : rx_I} {n : Nat} {a b : Int} {r : Nat → Int} (h : rx_sat I r) (h1 : a ≤ r n) (h2 : r n ≤ b) : rx_sat (rx_cap I n a b) r := by
  unfold rx_cap
  split
  · rename_i lo hi he
    refine ⟨h.1, by rw [List.length_set]; exact h.2.1, ?_⟩
    intro j x y hj
    by_cases hjn : j = n
    · subst hjn
      rw [List.getElem?_set_self (List.getElem?_eq_some_iff.mp he).1] at hj
      cases hj
      have := h.2.2 _ _ _ he
      refine ⟨?_, ?_⟩
      · split <;> omega
      · split <;> omega
    · rw [List.getElem?_set_ne (Ne.symm hjn)] at hj
      exact h.2.2 j x y hj
  · exact h
/-- can there be such a number at all -/
def rx_can (I : rx_I) (n : Nat) : Bool := match I[n]? with
  | some (lo, hi) => decide (lo ≤ hi)
  | none => true
theorem rx_can_ok {I : rx_I} {n : Nat} {r : Nat → Int} (h : rx_sat I r) : rx_can I n = true := by
  unfold rx_can
  split
  · rename_i lo hi he
    have := h.2.2 _ _ _ he
    exact decide_eq_true (by omega)
  · rfl
/-- facts that can't be beside a new one -/
def rx_no (c : Nat) (a b : rx_E) (f : Nat × rx_E × rx_E) : Bool :=
  -- f: x < y or x ≤ y or x = y with x over b's symbol, y over a's: then b - x.2 .. : is a < b (0), a ≤ b (1), a = b (2) out
  if f.2.1.1 == b.1 && f.2.2.1 == a.1 then
    match f.1, c with
    | 0, 0 => decide (b.2 - f.2.1.2 ≤ a.2 - f.2.2.2 + 1)
    | 0, 1 => decide (b.2 - f.2.1.2 ≤ a.2 - f.2.2.2)
    | 0, 2 => decide (b.2 - f.2.1.2 ≤ a.2 - f.2.2.2)
    | 1, 0 => decide (b.2 - f.2.1.2 ≤ a.2 - f.2.2.2)
    | 1, 1 => decide (b.2 - f.2.1.2 < a.2 - f.2.2.2)
    | 1, 2 => decide (b.2 - f.2.1.2 < a.2 - f.2.2.2)
    | 2, 0 => decide (b.2 - f.2.1.2 ≤ a.2 - f.2.2.2)
    | 2, 1 => decide (b.2 - f.2.1.2 < a.2 - f.2.2.2)
    | 2, 2 => decide (¬ b.2 - f.2.1.2 = a.2 - f.2.2.2)
    | 2, 3 => decide (b.2 - f.2.1.2 = a.2 - f.2.2.2)
    | 3, 2 => decide (b.2 - f.2.1.2 = a.2 - f.2.2.2)
    | _, _ => false
  else false
theorem rx_no_ok {c : Nat} {a b : rx_E} {f : Nat × rx_E × rx_E} {r : Nat → Int} (hc : c ≤ 3) (hf : rx_fact r f) (hn : rx_fact r (c, a, b)) : rx_no c a b f = false := by
  obtain ⟨k, ⟨xn, xc⟩, ⟨yn, yc⟩⟩ := f
  obtain ⟨an, ac⟩ := a
  obtain ⟨bn, bc⟩ := b
  unfold rx_no
  split
  · rename_i he
    simp only [Bool.and_eq_true, beq_iff_eq] at he
    obtain ⟨e1, e2⟩ := he
    subst e1; subst e2
    rcases (show c = 0 ∨ c = 1 ∨ c = 2 ∨ c = 3 by omega) with rfl | rfl | rfl | rfl <;> rcases (show k = 0 ∨ k = 1 ∨ k = 2 ∨ k = 3 ∨ 4 ≤ k by omega) with rfl | rfl | rfl | rfl | hk <;> first
      | rfl
      | (obtain ⟨j, rfl⟩ := Nat.exists_eq_add_of_le hk
         rw [Nat.add_comm]
         rfl)
      | (first
          | have g1 : r xn + xc < r yn + yc := hf
          | have g1 : r xn + xc ≤ r yn + yc := hf
          | have g1 : r xn + xc = r yn + yc := hf
          | have g1 : r xn + xc ≠ r yn + yc := hf
         first
          | have g2 : r yn + ac < r xn + bc := hn
          | have g2 : r yn + ac ≤ r xn + bc := hn
          | have g2 : r yn + ac = r xn + bc := hn
          | have g2 : r yn + ac ≠ r xn + bc := hn
         exact decide_eq_false (by dsimp only; omega))
  · rfl
/-- is a relation to be had of the offsets alone -/
def rx_rel (c : Nat) (x y : Int) : Bool := match c with
  | 0 => decide (x < y)
  | 1 => decide (x ≤ y)
  | 2 => decide (x = y)
  | _ => decide (¬ x = y)
/-- what follows of a relation: none, if it can't be; the bounds of both numbers come with it -/
def rx_asmI (I : rx_I) (c : Nat) (a b : rx_E) (al ah bl bh : Int) : rx_I := match c with
  | 0 => rx_cap (rx_cap I a.1 (al - a.2) (bh - 1 - a.2)) b.1 (al + 1 - b.2) (bh - b.2)
  | 1 => rx_cap (rx_cap I a.1 (al - a.2) (bh - a.2)) b.1 (al - b.2) (bh - b.2)
  | 2 => rx_cap (rx_cap I a.1 (bl - a.2) (bh - a.2)) b.1 (al - b.2) (ah - b.2)
  | _ => if bl = bh then (if al = bl then rx_cap I a.1 (al + 1 - a.2) (ah - a.2) else if ah = bl then rx_cap I a.1 (al - a.2) (ah - 1 - a.2) else I)
    else if al = ah then (if bl = al then rx_cap I b.1 (bl + 1 - b.2) (bh - b.2) else if bh = al then rx_cap I b.1 (bl - b.2) (bh - 1 - b.2) else I) else I
/-- a fact once more, over what is known now -/
def rx_prop (I : rx_I) (f : Nat × rx_E × rx_E) : rx_I := match rx_bd I f.2.1, rx_bd I f.2.2 with
  | some (al, ah), some (bl, bh) => if f.1 ≤ 3 then rx_asmI I f.1 f.2.1 f.2.2 al ah bl bh else I
  | _, _ => I
def rx_asm2 (I : rx_I) (F : rx_F) (c : Nat) (a b : rx_E) : Option (rx_I × rx_F) :=
  if rx_can I a.1 && rx_can I b.1 then some (I, if c = 3 ∨ (¬ a.1 = 0 ∧ ¬ b.1 = 0) then (c, a, b) :: F else F) else none
def rx_asm (I : rx_I) (F : rx_F) (c : Nat) (a b : rx_E) (al ah bl bh : Int) : Option (rx_I × rx_F) :=
  if a.1 = b.1 then (if rx_rel c a.2 b.2 then some (I, F) else none)
  else if F.any (rx_no c a b) || ((c == 2 || c == 3) && F.any (rx_no c b a)) then none
  else rx_asm2 (F.foldl rx_prop (rx_asmI I c a b al ah bl bh)) F c a b
theorem rx_asmI_ok {I : rx_I} {c : Nat} {a b : rx_E} {al ah bl bh : Int} {r : Nat → Int} (hc : c ≤ 3) (h : rx_sat I r) (h1 : al ≤ rx_ev r a ∧ rx_ev r a ≤ ah) (h2 : bl ≤ rx_ev r b ∧ rx_ev r b ≤ bh) (hf : rx_fact r (c, a, b)) : rx_sat (rx_asmI I c a b al ah bl bh) r ∧ (rx_asmI I c a b al ah bl bh).length = I.length := by
  obtain ⟨an, ac⟩ := a
  obtain ⟨bn, bc⟩ := b
  have e1 : al ≤ r an + ac ∧ r an + ac ≤ ah := h1
  have e2 : bl ≤ r bn + bc ∧ r bn + bc ≤ bh := h2
  rcases (show c = 0 ∨ c = 1 ∨ c = 2 ∨ c = 3 by omega) with rfl | rfl | rfl | rfl
  · have g : r an + ac < r bn + bc := hf
    exact ⟨rx_cap_ok (rx_cap_ok h (by dsimp only; omega) (by dsimp only; omega)) (by dsimp only; omega) (by dsimp only; omega), rx_cap_len.trans rx_cap_len⟩
  · have g : r an + ac ≤ r bn + bc := hf
    exact ⟨rx_cap_ok (rx_cap_ok h (by dsimp only; omega) (by dsimp only; omega)) (by dsimp only; omega) (by dsimp only; omega), rx_cap_len.trans rx_cap_len⟩
  · have g : r an + ac = r bn + bc := hf
    exact ⟨rx_cap_ok (rx_cap_ok h (by dsimp only; omega) (by dsimp only; omega)) (by dsimp only; omega) (by dsimp only; omega), rx_cap_len.trans rx_cap_len⟩
  · have g : r an + ac ≠ r bn + bc := hf
    show rx_sat (if bl = bh then _ else _) r ∧ (if bl = bh then _ else _ : rx_I).length = I.length
    split
    · split
      · exact ⟨rx_cap_ok h (by dsimp only; omega) (by dsimp only; omega), rx_cap_len⟩
      · split
        · exact ⟨rx_cap_ok h (by dsimp only; omega) (by dsimp only; omega), rx_cap_len⟩
        · exact ⟨h, rfl⟩
    · split
      · split
        · exact ⟨rx_cap_ok h (by dsimp only; omega) (by dsimp only; omega), rx_cap_len⟩
        · split
          · exact ⟨rx_cap_ok h (by dsimp only; omega) (by dsimp only; omega), rx_cap_len⟩
          · exact ⟨h, rfl⟩
      · exact ⟨h, rfl⟩
theorem rx_prop_ok {I : rx_I} {f : Nat × rx_E × rx_E} {r : Nat → Int} (h : rx_sat I r) (hf : rx_fact r f) : rx_sat (rx_prop I f) r ∧ (rx_prop I f).length = I.length := by
  unfold rx_prop
  split
  · rename_i al ah bl bh e1 e2
    split
    · rename_i hc
      have q1 := rx_bd_ok h e1
      have q2 := rx_bd_ok h e2
      exact rx_asmI_ok hc h ⟨q1.1, q1.2.1⟩ ⟨q2.1, q2.2.1⟩ hf
    · exact ⟨h, rfl⟩
  · exact ⟨h, rfl⟩
theorem rx_prop_all {r : Nat → Int} : ∀ (F : rx_F) {I : rx_I}, rx_sat I r → rx_facts F r → rx_sat (F.foldl rx_prop I) r ∧ (F.foldl rx_prop I).length = I.length
  | [], _, h, _ => ⟨h, rfl⟩
  | f :: F, I, h, hF => by
    obtain ⟨h1, h2⟩ := rx_prop_ok (f := f) h (hF f List.mem_cons_self)
    obtain ⟨h3, h4⟩ := rx_prop_all F h1 (fun g hg => hF g (List.mem_cons_of_mem _ hg))
    exact ⟨h3, h4.trans h2⟩
/-- a number of which just one is possible is that one -/
def rx_nm (I : rx_I) (e : rx_E) : rx_E := match I[e.1]? with
  | some (lo, hi) => if lo = hi then (0, lo + e.2) else e
  | none => e
theorem rx_nm_ok {I : rx_I} {e : rx_E} {r : Nat → Int} (h : rx_sat I r) : rx_ev r (rx_nm I e) = rx_ev r e ∧ (e.1 < I.length → (rx_nm I e).1 < I.length) := by
  unfold rx_nm
  split
  · rename_i lo hi he
    split
    · rename_i hc
      have := h.2.2 _ _ _ he
      refine ⟨?_, fun _ => rx_pos h⟩
      unfold rx_ev
      dsimp only
      rw [h.1]
      omega
    · exact ⟨rfl, id⟩
  · exact ⟨rfl, id⟩
theorem rx_rel_ok {c : Nat} {a b : rx_E} {r : Nat → Int} (hc : c ≤ 3) (hab : a.1 = b.1) (hf : rx_fact r (c, a, b)) : rx_rel c a.2 b.2 = true := by
  obtain ⟨an, ac⟩ := a
  obtain ⟨bn, bc⟩ := b
  have e : an = bn := hab
  subst e
  rcases (show c = 0 ∨ c = 1 ∨ c = 2 ∨ c = 3 by omega) with rfl | rfl | rfl | rfl
  · have g : r an + ac < r an + bc := hf
    exact decide_eq_true (by dsimp only; omega)
  · have g : r an + ac ≤ r an + bc := hf
    exact decide_eq_true (by dsimp only; omega)
  · have g : r an + ac = r an + bc := hf
    exact decide_eq_true (by dsimp only; omega)
  · have g : r an + ac ≠ r an + bc := hf
    exact decide_eq_true (by dsimp only; omega)
theorem rx_fact_sym {c : Nat} {a b : rx_E} {r : Nat → Int} (hc : c = 2 ∨ c = 3) (hf : rx_fact r (c, a, b)) : rx_fact r (c, b, a) := by
  rcases hc with rfl | rfl
  · exact Eq.symm (a := rx_ev r a) (b := rx_ev r b) hf
  · exact Ne.symm (a := rx_ev r a) (b := rx_ev r b) hf
theorem rx_asm_ok {I : rx_I} {F : rx_F} {c : Nat} {a b : rx_E} {al ah bl bh : Int} {r : Nat → Int} {N : Nat} (hc : c ≤ 3) (h : rx_sat I r) (hF : rx_facts F r) (hs : rx_fsc N F) (ha : a.1 < N) (hb : b.1 < N) (h1 : al ≤ rx_ev r a ∧ rx_ev r a ≤ ah) (h2 : bl ≤ rx_ev r b ∧ rx_ev r b ≤ bh) (hf : rx_fact r (c, a, b)) : ∃ (I2 : rx_I) (F2 : rx_F), rx_asm I F c a b al ah bl bh = some (I2, F2) ∧ rx_sat I2 r ∧ rx_facts F2 r ∧ rx_fsc N F2 ∧ I2.length = I.length := by
  unfold rx_asm
  split
  · rename_i hab
    rw [if_pos (rx_rel_ok hc hab hf)]
    exact ⟨I, F, rfl, h, hF, hs, rfl⟩
  · have hn : (F.any (rx_no c a b) || ((c == 2 || c == 3) && F.any (rx_no c b a))) = false := by
      rw [Bool.or_eq_false_iff]
      refine ⟨List.any_eq_false.mpr fun f hf2 => by rw [rx_no_ok hc (hF f hf2) hf]; exact Bool.false_ne_true, ?_⟩
      by_cases hcc : c = 2 ∨ c = 3
      · have : F.any (rx_no c b a) = false := List.any_eq_false.mpr fun f hf2 => by rw [rx_no_ok hc (hF f hf2) (rx_fact_sym hcc hf)]; exact Bool.false_ne_true
        rw [this, Bool.and_false]
      · have : (c == 2 || c == 3) = false := by
          rw [Bool.or_eq_false_iff]
          exact ⟨beq_false_of_ne fun q => hcc (Or.inl q), beq_false_of_ne fun q => hcc (Or.inr q)⟩
        rw [this, Bool.false_and]
    rw [hn]
    obtain ⟨g1, g2⟩ := rx_asmI_ok (I := I) hc h h1 h2 hf
    obtain ⟨k1, k2⟩ := rx_prop_all F g1 hF
    rw [if_neg Bool.false_ne_true]
    unfold rx_asm2
    rw [rx_can_ok k1, rx_can_ok k1]
    refine ⟨_, _, rfl, k1, ?_, ?_, k2.trans g2⟩
    · split
      · intro f hf2
        rcases List.mem_cons.mp hf2 with e | e
        · subst e; exact hf
        · exact hF f e
      · exact hF
    · split
      · intro f hf2
        rcases List.mem_cons.mp hf2 with e | e
        · subst e; exact ⟨ha, hb⟩
        · exact hs f e
      · exact hs
end
section
/-! A REFLECTED MACHINE, part 2: what an operation makes of numbers -/
def rx_op (o : Nat) (x y : Int32) : Int32 := match o with
  | 0 => x + y
  | 1 => x - y
  | 2 => x * y
  | 3 => x / y
  | 4 => x - x / y * y
  | 5 => x &&& y
  | 6 => x ||| y
  | 7 => x ^^^ y
  | 8 => x <<< (y &&& 31)
  | 9 => x >>> (y &&& 31)
  | _ => (x.toUInt32 >>> (y.toUInt32 &&& Int32.toUInt32 31)).toInt32
/-- bounds of an answer, by those of what it is made of -/
def rx_opb (o : Nat) (al ah bl bh : Int) : Int × Int := match o with
  | 0 => if -2147483648 ≤ al + bl ∧ ah + bh ≤ 2147483647 then (al + bl, ah + bh) else (-2147483648, 2147483647)
  | 1 => if -2147483648 ≤ al - bh ∧ ah - bl ≤ 2147483647 then (al - bh, ah - bl) else (-2147483648, 2147483647)
  | 2 => if 0 ≤ al ∧ 0 ≤ bl ∧ ah * bh ≤ 2147483647 then (0, ah * bh) else (-2147483648, 2147483647)
  | 3 => if 0 ≤ al ∧ 0 < bl then (0, ah) else (-2147483648, 2147483647)
  | 4 => if 0 < bl then (if 0 ≤ al then (0, bh - 1) else (1 - bh, bh - 1)) else (-2147483648, 2147483647)
  | _ => (-2147483648, 2147483647)
theorem rx_mulb {a b ah bh : Int} (h0 : 0 ≤ a) (h1 : a ≤ ah) (h2 : 0 ≤ b) (h3 : b ≤ bh) : 0 ≤ a * b ∧ a * b ≤ ah * bh :=
  ⟨Int.mul_nonneg h0 h2, Int.le_trans (Int.mul_le_mul_of_nonneg_right h1 h2) (Int.mul_le_mul_of_nonneg_left h3 (Int.le_trans h0 h1))⟩
theorem rx_bmod {z : Int} (h1 : -2147483648 ≤ z) (h2 : z ≤ 2147483647) : z.bmod (2 ^ 32) = z := by
  simp only [Int.bmod]
  split <;> omega
theorem rx_opb_ok {o : Nat} {x y : Int32} {al ah bl bh : Int} (h1 : al ≤ x.toInt) (h2 : x.toInt ≤ ah) (h3 : bl ≤ y.toInt) (h4 : y.toInt ≤ bh) : (rx_opb o al ah bl bh).1 ≤ (rx_op o x y).toInt ∧ (rx_op o x y).toInt ≤ (rx_opb o al ah bl bh).2 := by
  have full : ∀ w : Int32, ((-2147483648, 2147483647) : Int × Int).1 ≤ w.toInt ∧ w.toInt ≤ ((-2147483648, 2147483647) : Int × Int).2 := fun w => rx_b32 w
  match o with
  | 0 =>
    show (if _ then _ else _ : Int × Int).1 ≤ (x + y).toInt ∧ (x + y).toInt ≤ (if _ then _ else _ : Int × Int).2
    split
    · rename_i h
      have e : (x + y).toInt = x.toInt + y.toInt := by
        rw [Int32.toInt_add]
        exact rx_bmod (by omega) (by omega)
      rw [e]
      exact ⟨by dsimp only; omega, by dsimp only; omega⟩
    · exact full _
  | 1 =>
    show (if _ then _ else _ : Int × Int).1 ≤ (x - y).toInt ∧ (x - y).toInt ≤ (if _ then _ else _ : Int × Int).2
    split
    · rename_i h
      have e : (x - y).toInt = x.toInt - y.toInt := by
        rw [Int32.toInt_sub]
        exact rx_bmod (by omega) (by omega)
      rw [e]
      exact ⟨by dsimp only; omega, by dsimp only; omega⟩
    · exact full _
  | 2 =>
    show (if _ then _ else _ : Int × Int).1 ≤ (x * y).toInt ∧ (x * y).toInt ≤ (if _ then _ else _ : Int × Int).2
    split
    · rename_i h
      obtain ⟨g1, g2⟩ := rx_mulb (a := x.toInt) (b := y.toInt) (by omega) h2 (by omega) h4
      have e : (x * y).toInt = x.toInt * y.toInt := by
        rw [Int32.toInt_mul]
        exact rx_bmod (by omega) (by omega)
      rw [e]
      exact ⟨g1, g2⟩
    · exact full _
  | 3 =>
    show (if _ then _ else _ : Int × Int).1 ≤ (x / y).toInt ∧ (x / y).toInt ≤ (if _ then _ else _ : Int × Int).2
    split
    · rename_i h
      have e : (x / y).toInt = x.toInt.tdiv y.toInt := by
        rw [Int32.toInt_div]
        refine rx_bmod ?_ ?_
        · have := Int.tdiv_nonneg (a := x.toInt) (b := y.toInt) (by omega) (by omega)
          omega
        · have := Int.tdiv_le_self (a := x.toInt) y.toInt (by omega)
          have := rx_b32 x
          omega
      rw [e]
      have g1 := Int.tdiv_nonneg (a := x.toInt) (b := y.toInt) (by omega) (by omega)
      have g2 := Int.tdiv_le_self (a := x.toInt) y.toInt (by omega)
      exact ⟨by dsimp only; omega, by dsimp only; omega⟩
    · exact full _
  | 4 =>
    show (if _ then _ else _ : Int × Int).1 ≤ (x - x / y * y).toInt ∧ (x - x / y * y).toInt ≤ (if _ then _ else _ : Int × Int).2
    rw [rem_toInt]
    split
    · rename_i h
      obtain ⟨g1, g2⟩ := tmod_bounds (a := x.toInt) (M := y.toInt) (by omega)
      split
      · rename_i h5
        have g3 := Int.tmod_nonneg (a := x.toInt) y.toInt (by omega)
        exact ⟨by dsimp only; omega, by dsimp only; omega⟩
      · exact ⟨by dsimp only; omega, by dsimp only; omega⟩
    · have := full (x - x / y * y)
      rw [rem_toInt] at this
      exact this
  | n + 5 => exact full _
/-- an answer: known, a symbol with an offset, or a new symbol -/
def rx_lit (e : rx_E) : Bool := e.1 == 0
theorem rx_lit_ok {I : rx_I} {e : rx_E} {r : Nat → Int} (h : rx_lit e = true) (hs : rx_sat I r) : rx_ev r e = e.2 := by
  unfold rx_lit at h
  rw [beq_iff_eq] at h
  unfold rx_ev
  rw [h, hs.1]
  omega
theorem rx_ev0 {I : rx_I} {r : Nat → Int} (hs : rx_sat I r) (z : Int) : rx_ev r (0, z) = z := by
  unfold rx_ev
  rw [hs.1]
  omega
def rx_bin1 (o : Nat) (I : rx_I) (a b : rx_E) : Option (rx_I × rx_E) :=
  if rx_lit a && rx_lit b then some (I, 0, (rx_op o (Int32.ofInt a.2) (Int32.ofInt b.2)).toInt)
  else match rx_bi I a, rx_bi I b with
    | some (al, ah), some (bl, bh) =>
      if o = 0 ∧ rx_lit b = true ∧ -2147483648 ≤ al + b.2 ∧ ah + b.2 ≤ 2147483647 then some (I, a.1, a.2 + b.2)
      else if o = 0 ∧ rx_lit a = true ∧ -2147483648 ≤ bl + a.2 ∧ bh + a.2 ≤ 2147483647 then some (I, b.1, b.2 + a.2)
      else if o = 1 ∧ rx_lit b = true ∧ -2147483648 ≤ al - b.2 ∧ ah - b.2 ≤ 2147483647 then some (I, a.1, a.2 - b.2)
      else some (I ++ [rx_opb o al ah bl bh], I.length, 0)
    | _, _ => none
/-- an int comes as a new symbol -/
theorem rx_fresh {I : rx_I} {r : Nat → Int} {lo hi : Int} (x : Int32) (h : rx_sat I r) (h1 : lo ≤ x.toInt) (h2 : x.toInt ≤ hi) : ∃ r' : Nat → Int, rx_same I.length r r' ∧ rx_sat (I ++ [(lo, hi)]) r' ∧ Int32.ofInt (rx_ev r' (I.length, 0)) = x := by
  refine ⟨rx_up r I.length x.toInt, rx_up_same, rx_sat_up h h1 h2, ?_⟩
  unfold rx_ev
  rw [rx_up_self, Int.add_zero, Int32.ofInt_toInt]
theorem rx_freshL {I : rx_I} {r : Nat → Int} {lo hi : Int} (x : Int64) (h : rx_sat I r) (h1 : lo ≤ x.toInt) (h2 : x.toInt ≤ hi) : ∃ r' : Nat → Int, rx_same I.length r r' ∧ rx_sat (I ++ [(lo, hi)]) r' ∧ Int64.ofInt (rx_ev r' (I.length, 0)) = x := by
  refine ⟨rx_up r I.length x.toInt, rx_up_same, rx_sat_up h h1 h2, ?_⟩
  unfold rx_ev
  rw [rx_up_self, Int.add_zero, Int64.ofInt_toInt]
theorem rx_bin1_ok {o : Nat} {I I2 : rx_I} {a b e : rx_E} {r : Nat → Int} (h : rx_sat I r) (hb : rx_bin1 o I a b = some (I2, e)) : ∃ r' : Nat → Int, rx_same I.length r r' ∧ rx_sat I2 r' ∧ Int32.ofInt (rx_ev r' e) = rx_op o (Int32.ofInt (rx_ev r a)) (Int32.ofInt (rx_ev r b)) ∧ I.length ≤ I2.length ∧ e.1 < I2.length := by
  unfold rx_bin1 at hb
  split at hb
  · rename_i hc
    rw [Bool.and_eq_true] at hc
    have e1 := rx_lit_ok hc.1 h
    have e3 := rx_lit_ok hc.2 h
    cases hb
    refine ⟨r, rx_same.rf, h, ?_, Nat.le_refl _, rx_pos h⟩
    rw [rx_ev0 h, Int32.ofInt_toInt, e1, e3]
  · split at hb
    · rename_i al ah bl bh ha hbb
      obtain ⟨a1, a2, a3, a4⟩ := rx_bi_ok h ha
      obtain ⟨b1, b2, b3, b4⟩ := rx_bi_ok h hbb
      split at hb
      · rename_i hc
        obtain ⟨rfl, hc2, hc3, hc4⟩ := hc
        have e1 := rx_lit_ok hc2 h
        cases hb
        refine ⟨r, rx_same.rf, h, ?_, Nat.le_refl _, a4⟩
        show Int32.ofInt (rx_ev r (a.1, a.2 + b.2)) = Int32.ofInt (rx_ev r a) + Int32.ofInt (rx_ev r b)
        rw [← Int32.ofInt_add, e1]
        congr 1
        unfold rx_ev
        dsimp only
        omega
      · split at hb
        · rename_i hc
          obtain ⟨rfl, hc2, hc3, hc4⟩ := hc
          have e1 := rx_lit_ok hc2 h
          cases hb
          refine ⟨r, rx_same.rf, h, ?_, Nat.le_refl _, b4⟩
          show Int32.ofInt (rx_ev r (b.1, b.2 + a.2)) = Int32.ofInt (rx_ev r a) + Int32.ofInt (rx_ev r b)
          rw [← Int32.ofInt_add, e1]
          congr 1
          unfold rx_ev
          dsimp only
          omega
        · split at hb
          · rename_i hc
            obtain ⟨rfl, hc2, hc3, hc4⟩ := hc
            have e1 := rx_lit_ok hc2 h
            cases hb
            refine ⟨r, rx_same.rf, h, ?_, Nat.le_refl _, a4⟩
            show Int32.ofInt (rx_ev r (a.1, a.2 - b.2)) = Int32.ofInt (rx_ev r a) - Int32.ofInt (rx_ev r b)
            rw [← Int32.ofInt_sub, e1]
            congr 1
            unfold rx_ev
            dsimp only
            omega
          · cases hb
            obtain ⟨g1, g2⟩ := rx_opb_ok (o := o) (x := Int32.ofInt (rx_ev r a)) (y := Int32.ofInt (rx_ev r b)) (al := al) (ah := ah) (bl := bl) (bh := bh) (by rw [a3]; exact a1) (by rw [a3]; exact a2) (by rw [b3]; exact b1) (by rw [b3]; exact b2)
            obtain ⟨r', q1, q2, q3⟩ := rx_fresh (lo := (rx_opb o al ah bl bh).1) (hi := (rx_opb o al ah bl bh).2) (rx_op o (Int32.ofInt (rx_ev r a)) (Int32.ofInt (rx_ev r b))) h g1 g2
            exact ⟨r', q1, q2, q3, by simp, by simp⟩
    · cases hb
def rx_bin (o : Nat) (I : rx_I) (a b : rx_E) : Option (rx_I × rx_E) := rx_bin1 o I (rx_nm I a) (rx_nm I b)
theorem rx_bin_ok {o : Nat} {I I2 : rx_I} {a b e : rx_E} {r : Nat → Int} (h : rx_sat I r) (hb : rx_bin o I a b = some (I2, e)) : ∃ r' : Nat → Int, rx_same I.length r r' ∧ rx_sat I2 r' ∧ Int32.ofInt (rx_ev r' e) = rx_op o (Int32.ofInt (rx_ev r a)) (Int32.ofInt (rx_ev r b)) ∧ I.length ≤ I2.length ∧ e.1 < I2.length := by
  have := rx_bin1_ok h hb
  rw [(rx_nm_ok (e := a) h).1, (rx_nm_ok (e := b) h).1] at this
  exact this
/-- longs: the same, with fewer bounds -/
def rx_opL (o : Nat) (x y : Int64) : Int64 := match o with
  | 0 => x + y
  | 1 => x - y
  | 2 => x * y
  | 3 => x / y
  | 4 => x - x / y * y
  | 5 => x &&& y
  | 6 => x ||| y
  | _ => x ^^^ y
def rx_binL1 (o : Nat) (I : rx_I) (a b : rx_E) : rx_I × rx_E :=
  if rx_lit a && rx_lit b then (I, 0, (rx_opL o (Int64.ofInt a.2) (Int64.ofInt b.2)).toInt)
  else if o = 0 ∧ rx_lit b = true ∧ a.1 < I.length then (I, a.1, a.2 + b.2)
  else if o = 0 ∧ rx_lit a = true ∧ b.1 < I.length then (I, b.1, b.2 + a.2)
  else if o = 1 ∧ rx_lit b = true ∧ a.1 < I.length then (I, a.1, a.2 - b.2)
  else (I ++ [(-9223372036854775808, 9223372036854775807)], I.length, 0)
theorem rx_binL1_ok {o : Nat} {I : rx_I} {a b : rx_E} {r : Nat → Int} (h : rx_sat I r) : ∃ r' : Nat → Int, rx_same I.length r r' ∧ rx_sat (rx_binL1 o I a b).1 r' ∧ Int64.ofInt (rx_ev r' (rx_binL1 o I a b).2) = rx_opL o (Int64.ofInt (rx_ev r a)) (Int64.ofInt (rx_ev r b)) ∧ I.length ≤ (rx_binL1 o I a b).1.length ∧ (rx_binL1 o I a b).2.1 < (rx_binL1 o I a b).1.length := by
  unfold rx_binL1
  split
  · rename_i hc
    rw [Bool.and_eq_true] at hc
    have e1 := rx_lit_ok hc.1 h
    have e3 := rx_lit_ok hc.2 h
    refine ⟨r, rx_same.rf, h, ?_, Nat.le_refl _, rx_pos h⟩
    dsimp only
    rw [rx_ev0 h, Int64.ofInt_toInt, e1, e3]
  · split
    · rename_i hc
      obtain ⟨ho, hl, hs⟩ := hc
      subst ho
      refine ⟨r, rx_same.rf, h, ?_, Nat.le_refl _, hs⟩
      rw [rx_lit_ok hl h]
      show Int64.ofInt (r a.1 + (a.2 + b.2)) = Int64.ofInt (r a.1 + a.2) + Int64.ofInt b.2
      rw [← Int64.ofInt_add, Int.add_assoc]
    · split
      · rename_i hc
        obtain ⟨ho, hl, hs⟩ := hc
        subst ho
        refine ⟨r, rx_same.rf, h, ?_, Nat.le_refl _, hs⟩
        rw [rx_lit_ok hl h]
        show Int64.ofInt (r b.1 + (b.2 + a.2)) = Int64.ofInt a.2 + Int64.ofInt (r b.1 + b.2)
        rw [← Int64.ofInt_add]
        congr 1
        omega
      · split
        · rename_i hc
          obtain ⟨ho, hl, hs⟩ := hc
          subst ho
          refine ⟨r, rx_same.rf, h, ?_, Nat.le_refl _, hs⟩
          rw [rx_lit_ok hl h]
          show Int64.ofInt (r a.1 + (a.2 - b.2)) = Int64.ofInt (r a.1 + a.2) - Int64.ofInt b.2
          rw [← Int64.ofInt_sub]
          congr 1
          omega
        · obtain ⟨r', q1, q2, q3⟩ := rx_freshL (lo := -9223372036854775808) (hi := 9223372036854775807) (rx_opL o (Int64.ofInt (rx_ev r a)) (Int64.ofInt (rx_ev r b))) h (rx_b64 _).1 (rx_b64 _).2
          exact ⟨r', q1, q2, q3, by simp, by simp⟩
def rx_binL (o : Nat) (I : rx_I) (a b : rx_E) : rx_I × rx_E := rx_binL1 o I (rx_nm I a) (rx_nm I b)
theorem rx_binL_ok {o : Nat} {I : rx_I} {a b : rx_E} {r : Nat → Int} (h : rx_sat I r) : ∃ r' : Nat → Int, rx_same I.length r r' ∧ rx_sat (rx_binL o I a b).1 r' ∧ Int64.ofInt (rx_ev r' (rx_binL o I a b).2) = rx_opL o (Int64.ofInt (rx_ev r a)) (Int64.ofInt (rx_ev r b)) ∧ I.length ≤ (rx_binL o I a b).1.length ∧ (rx_binL o I a b).2.1 < (rx_binL o I a b).1.length := by
  have := rx_binL1_ok (o := o) (a := rx_nm I a) (b := rx_nm I b) h
  rw [(rx_nm_ok (e := a) h).1, (rx_nm_ok (e := b) h).1] at this
  exact this
end
section
/-! A REFLECTED MACHINE, part 3: states, and the instructions that touch no cell -/
/-- symbols, facts, cells; how many cells and slots were made; pc, locals, stack -/
abbrev rx_Z : Type := rx_I × rx_F × List rx_C × Nat × Nat × Nat × List (Nat × rx_V) × List rx_V
def rx_n (z : Int) : rx_V := .inr (0, (0, z))
def rx_k2 (v : rx_V) : Bool := match v with
  | .inr (1, _) => true
  | _ => false
def rx_lvs (r : Nat → Int) (ad xa : Nat → Nat) (lv : List (Nat × rx_V)) : List (Nat × Value) := lv.map (fun q => (q.1, rx_iv r ad xa q.2))
def rx_del (lv : List (Nat × rx_V)) (i : Nat) : List (Nat × rx_V) := lv.filter (fun q => !(q.1 == i) && !(q.1 + 1 == i && rx_k2 q.2))
def rx_del2 (lv : List (Nat × rx_V)) (i : Nat) : List (Nat × rx_V) := lv.filter (fun q => !(q.1 == i) && (!(q.1 == i + 1) && !(q.1 + 1 == i && rx_k2 q.2)))
theorem rx_cat {r : Nat → Int} {ad xa : Nat → Nat} {v : rx_V} (h : rx_k2 v = false) : (rx_iv r ad xa v).category = 1 := by
  match v, h with
  | .inl none, _ => rfl
  | .inl (some k), _ => rfl
  | .inr (0, e), _ => rfl
  | .inr (1, e), h => exact absurd (show true = false from h) (fun q => Bool.false_ne_true q.symm)
  | .inr (_ + 2, e), _ => rfl
theorem rx_cat2 {r : Nat → Int} {ad xa : Nat → Nat} {v : rx_V} (h : rx_k2 v = true) : (rx_iv r ad xa v).category = 2 := by
  match v, h with
  | .inl none, h => exact absurd (show false = true from h) Bool.false_ne_true
  | .inl (some k), h => exact absurd (show false = true from h) Bool.false_ne_true
  | .inr (0, e), h => exact absurd (show false = true from h) Bool.false_ne_true
  | .inr (1, e), _ => rfl
  | .inr (_ + 2, e), h => exact absurd (show false = true from h) Bool.false_ne_true
theorem rx_cateq {r : Nat → Int} {ad xa : Nat → Nat} {v : rx_V} : ((rx_iv r ad xa v).category == 2) = rx_k2 v := by
  cases h : rx_k2 v with
  | false => rw [rx_cat h]; rfl
  | true => rw [rx_cat2 h]; rfl
theorem rx_lv_get {r : Nat → Int} {ad xa : Nat → Nat} {lv : List (Nat × rx_V)} {ls : Array Slot} {nL i : Nat} {v : rx_V} (h : lv_has ls nL (rx_lvs r ad xa lv)) (hv : rx_lk lv i = some v) : ls[i]? = some (.val (rx_iv r ad xa v)) :=
  h.2.2 (i, rx_iv r ad xa v) (List.mem_map.mpr ⟨(i, v), rx_lk_mem hv, rfl⟩)
theorem rx_lv_of {r : Nat → Int} {ad xa : Nat → Nat} {lv' : List (Nat × rx_V)} {ls : Array Slot} {nL i : Nat} {v : rx_V} {L : List (Nat × Value)} (h : lv_has ls nL ((i, rx_iv r ad xa v) :: L)) (hL : ∀ q ∈ lv', (q.1, rx_iv r ad xa q.2) ∈ L) : lv_has ls nL (rx_lvs r ad xa ((i, v) :: lv')) := by
  refine ⟨h.1, h.2.1, fun q hq => ?_⟩
  obtain ⟨y, hy, rfl⟩ := List.mem_map.mp hq
  rcases List.mem_cons.mp hy with e | e
  · subst e
    exact h.2.2 _ List.mem_cons_self
  · exact h.2.2 _ (List.mem_cons_of_mem _ (hL y e))
theorem rx_lv_st {r : Nat → Int} {ad xa : Nat → Nat} {lv : List (Nat × rx_V)} {ls : Array Slot} {nL i : Nat} {v : rx_V} (h : lv_has ls nL ((i, rx_iv r ad xa v) :: (rx_lvs r ad xa lv).filter (fun q => !(q.1 == i) && !(q.1 + 1 == i && q.2.category == 2)))) : lv_has ls nL (rx_lvs r ad xa ((i, v) :: rx_del lv i)) := by
  refine rx_lv_of h fun q hq => ?_
  obtain ⟨h1, h2⟩ := List.mem_filter.mp hq
  refine List.mem_filter.mpr ⟨List.mem_map.mpr ⟨q, h1, rfl⟩, ?_⟩
  dsimp only
  rw [rx_cateq]
  exact h2
theorem rx_lv_st2 {r : Nat → Int} {ad xa : Nat → Nat} {lv : List (Nat × rx_V)} {ls : Array Slot} {nL i : Nat} {v : rx_V} (h : lv_has ls nL ((i, rx_iv r ad xa v) :: (rx_lvs r ad xa lv).filter (fun q => !(q.1 == i) && (!(q.1 == i + 1) && !(q.1 + 1 == i && q.2.category == 2))))) : lv_has ls nL (rx_lvs r ad xa ((i, v) :: rx_del2 lv i)) := by
  refine rx_lv_of h fun q hq => ?_
  obtain ⟨h1, h2⟩ := List.mem_filter.mp hq
  refine List.mem_filter.mpr ⟨List.mem_map.mpr ⟨q, h1, rfl⟩, ?_⟩
  dsimp only
  rw [rx_cateq]
  exact h2
theorem rx_lvs_ext {N M : Nat} {r r' : Nat → Int} {ad ad' xa : Nat → Nat} {lv : List (Nat × rx_V)} (h : ∀ q ∈ lv, rx_sc N M q.2) (hr : rx_same N r r') (ha : rx_sameA M ad ad') : rx_lvs r' ad' xa lv = rx_lvs r ad xa lv :=
  List.map_congr_left fun q hq => by rw [rx_iv_ext (h q hq) hr ha]
theorem rx_st_ext {N M : Nat} {r r' : Nat → Int} {ad ad' xa : Nat → Nat} {st : List rx_V} (h : ∀ v ∈ st, rx_sc N M v) (hr : rx_same N r r') (ha : rx_sameA M ad ad') : st.map (rx_iv r' ad' xa) = st.map (rx_iv r ad xa) :=
  List.map_congr_left fun v hv => rx_iv_ext (h v hv) hr ha
/-- a state stands for what the machine holds -/
def rx_R (D : va_G) (cl : List vw_C) (A : Nat → Prop) (s : State) (xa : Nat → Nat) (nL : Nat) (H0 : Heap) (z : rx_Z) (r : Nat → Int) (ad : Nat → Nat) (H : Heap) (locs : List Loc) (ls : Array Slot) : Prop :=
  rx_sat z.1 r ∧ rx_facts z.2.1 r ∧ rx_fsc z.1.length z.2.1 ∧ rx_W D cl A s xa z.1.length z.2.2.1 r ad H0 H locs ∧ lv_has ls nL (rx_lvs r ad xa z.2.2.2.2.2.2.1) ∧ (∀ q ∈ z.2.2.2.2.2.2.1, rx_sc z.1.length z.2.2.1.length q.2) ∧ ∀ v ∈ z.2.2.2.2.2.2.2, rx_sc z.1.length z.2.2.1.length v
/-- the goal at a state -/
def rx_G (p : Program) (l : Launch) (e : Env) (R : Room) (s : State) (m : MethodId) (args : Array Value) (below : List Frame) (meth : Method) (c : Code) (Q : State → Prop) (D : va_G) (cl : List vw_C) (A : Nat → Prop) (xa : Nat → Nat) (nL : Nat) (H0 : Heap) (N M : Nat) (r : Nat → Int) (ad : Nat → Nat) (z : rx_Z) : Prop :=
  ∀ (r' : Nat → Int) (ad' : Nat → Nat) (H : Heap) (locs : List Loc) (ls : Array Slot), N ≤ z.1.length → M ≤ z.2.2.1.length → rx_same N r r' → rx_sameA M ad ad' → rx_R D cl A s xa nL H0 z r' ad' H locs ls →
    W p l e R s m args below meth c H locs z.2.2.2.1 z.2.2.2.2.1 Q (F0 m z.2.2.2.2.2.1 ls (z.2.2.2.2.2.2.2.map (rx_iv r' ad' xa)))
/-- where a branch goes -/
def rx_to (pc : Nat) (off : Int) : Nat := ((pc : Int) + off).toNat
def rx_cnd (c : Jvm.ClassFile.Cond) (a b : rx_E) : (Nat × rx_E × rx_E) × (Nat × rx_E × rx_E) := match c with
  | .eq => ((2, a, b), (3, a, b))
  | .ne => ((3, a, b), (2, a, b))
  | .lt => ((0, a, b), (1, b, a))
  | .ge => ((1, b, a), (0, a, b))
  | .gt => ((0, b, a), (1, a, b))
  | .le => ((1, a, b), (0, b, a))
end
section
/-! A REFLECTED MACHINE, part 4: plain instructions, a handler each -/
def rx_pi (st : List rx_V) : Option (rx_E × List rx_V) := match st with
  | .inr (0, e) :: t => some (e, t)
  | _ => none
def rx_pl (st : List rx_V) : Option (rx_E × List rx_V) := match st with
  | .inr (1, e) :: t => some (e, t)
  | _ => none
def rx_pr (st : List rx_V) : Option (Option Nat × List rx_V) := match st with
  | .inl o :: t => some (o, t)
  | _ => none
def rx_pv (st : List rx_V) : Option (rx_V × List rx_V) := match st with
  | v :: t => some (v, t)
  | [] => none
theorem rx_pi_ok {st t : List rx_V} {e : rx_E} (h : rx_pi st = some (e, t)) : st = .inr (0, e) :: t := by
  match st, h with
  | [], h => exact absurd (show (none : Option (rx_E × List rx_V)) = some (e, t) from h) (fun q => by cases q)
  | .inl _ :: _, h => exact absurd (show (none : Option (rx_E × List rx_V)) = some (e, t) from h) (fun q => by cases q)
  | .inr (0, e0) :: t0, h =>
    have h2 : some (e0, t0) = some (e, t) := h
    cases h2
    rfl
  | .inr (_ + 1, _) :: _, h => exact absurd (show (none : Option (rx_E × List rx_V)) = some (e, t) from h) (fun q => by cases q)
theorem rx_pl_ok {st t : List rx_V} {e : rx_E} (h : rx_pl st = some (e, t)) : st = .inr (1, e) :: t := by
  match st, h with
  | [], h => exact absurd (show (none : Option (rx_E × List rx_V)) = some (e, t) from h) (fun q => by cases q)
  | .inl _ :: _, h => exact absurd (show (none : Option (rx_E × List rx_V)) = some (e, t) from h) (fun q => by cases q)
  | .inr (0, _) :: _, h => exact absurd (show (none : Option (rx_E × List rx_V)) = some (e, t) from h) (fun q => by cases q)
  | .inr (1, e0) :: t0, h =>
    have h2 : some (e0, t0) = some (e, t) := h
    cases h2
    rfl
  | .inr (_ + 2, _) :: _, h => exact absurd (show (none : Option (rx_E × List rx_V)) = some (e, t) from h) (fun q => by cases q)
theorem rx_pr_ok {st t : List rx_V} {o : Option Nat} (h : rx_pr st = some (o, t)) : st = .inl o :: t := by
  match st, h with
  | [], h => exact absurd (show (none : Option (Option Nat × List rx_V)) = some (o, t) from h) (fun q => by cases q)
  | .inl o0 :: t0, h =>
    have h2 : some (o0, t0) = some (o, t) := h
    cases h2
    rfl
  | .inr _ :: _, h => exact absurd (show (none : Option (Option Nat × List rx_V)) = some (o, t) from h) (fun q => by cases q)
theorem rx_pv_ok {st t : List rx_V} {v : rx_V} (h : rx_pv st = some (v, t)) : st = v :: t := by
  match st, h with
  | [], h => exact absurd (show (none : Option (rx_V × List rx_V)) = some (v, t) from h) (fun q => by cases q)
  | v0 :: t0, h =>
    have h2 : some (v0, t0) = some (v, t) := h
    cases h2
    rfl
def rx_zst (z : rx_Z) : List rx_V := z.2.2.2.2.2.2.2
def rx_zlv (z : rx_Z) : List (Nat × rx_V) := z.2.2.2.2.2.2.1
def rx_zpc (z : rx_Z) : Nat := z.2.2.2.2.2.1
/-- the state further on, with this stack -/
def rx_nx (z : rx_Z) (d : Nat) (st : List rx_V) : rx_Z := match z with
  | (I0, F1, ht0, c0, s0, pc0, lv0, _) => (I0, F1, ht0, c0, s0, pc0 + d, lv0, st)
def rx_nxI (I : rx_I) (z : rx_Z) (d : Nat) (st : List rx_V) : rx_Z := match z with
  | (_, F1, ht0, c0, s0, pc0, lv0, _) => (I, F1, ht0, c0, s0, pc0 + d, lv0, st)
def rx_nxl (lv : List (Nat × rx_V)) (z : rx_Z) (d : Nat) (st : List rx_V) : rx_Z := match z with
  | (I0, F1, ht0, c0, s0, pc0, _, _) => (I0, F1, ht0, c0, s0, pc0 + d, lv, st)
section RXP
variable {p : Program} {l : Launch} {e : Env} {R : Room} {s : State} {m : MethodId} {args : Array Value} {below : List Frame} {meth : Method} {c : Code} {Q : State → Prop}
variable {D : va_G} {cl : List vw_C} {A : Nat → Prop} {xa : Nat → Nat} {nL : Nat} {H0 H : Heap} {locs : List Loc} {ls : Array Slot} {r : Nat → Int} {ad : Nat → Nat}
variable {cc : ByteArray} {z : rx_Z} {zs : List rx_Z}
theorem rx_at {N M : Nat} {z' : rx_Z} {r' : Nat → Int} {ad' : Nat → Nat} {H' : Heap} {locs' : List Loc} {ls' : Array Slot} {pc k n : Nat} {vs : List Value} (K : rx_G p l e R s m args below meth c Q D cl A xa nL H0 N M r ad z') (hr : rx_same N r r') (ha : rx_sameA M ad ad') (hR : rx_R D cl A s xa nL H0 z' r' ad' H' locs' ls')
    (hpc : rx_zpc z' = pc) (hk : z'.2.2.2.1 = k) (hn : z'.2.2.2.2.1 = n) (hvs : (rx_zst z').map (rx_iv r' ad' xa) = vs)
    (hN : N ≤ z'.1.length := by first | exact Nat.le_refl _ | assumption | (apply Nat.le_of_eq; symm; assumption) | (unfold rx_nxa; simp)) (hM : M ≤ z'.2.2.1.length := by first | exact Nat.le_refl _ | assumption | (unfold rx_nxa; simp) | (unfold rx_nxh; simp)) : W p l e R s m args below meth c H' locs' k n Q (F0 m pc ls' vs) := by
  subst hpc; subst hk; subst hn; subst hvs
  exact K r' ad' H' locs' ls' hN hM hr ha hR
theorem rx_stsc (hR : rx_R D cl A s xa nL H0 z r ad H locs ls) : ∀ v ∈ rx_zst z, rx_sc z.1.length z.2.2.1.length v := hR.2.2.2.2.2.2
theorem rx_lvsc (hR : rx_R D cl A s xa nL H0 z r ad H locs ls) : ∀ q ∈ rx_zlv z, rx_sc z.1.length z.2.2.1.length q.2 := hR.2.2.2.2.2.1
theorem rx_lvh (hR : rx_R D cl A s xa nL H0 z r ad H locs ls) : lv_has ls nL (rx_lvs r ad xa (rx_zlv z)) := hR.2.2.2.2.1
theorem rx_R_nx {d : Nat} {st : List rx_V} (hR : rx_R D cl A s xa nL H0 z r ad H locs ls) (hs : ∀ v ∈ st, rx_sc z.1.length z.2.2.1.length v) : rx_R D cl A s xa nL H0 (rx_nx z d st) r ad H locs ls :=
  ⟨hR.1, hR.2.1, hR.2.2.1, hR.2.2.2.1, hR.2.2.2.2.1, hR.2.2.2.2.2.1, hs⟩
theorem rx_R_nxl {d : Nat} {st : List rx_V} {lv : List (Nat × rx_V)} {ls' : Array Slot} (hR : rx_R D cl A s xa nL H0 z r ad H locs ls) (hl : lv_has ls' nL (rx_lvs r ad xa lv)) (hq : ∀ q ∈ lv, rx_sc z.1.length z.2.2.1.length q.2) (hs : ∀ v ∈ st, rx_sc z.1.length z.2.2.1.length v) : rx_R D cl A s xa nL H0 (rx_nxl lv z d st) r ad H locs ls' :=
  ⟨hR.1, hR.2.1, hR.2.2.1, hR.2.2.2.1, hl, hq, hs⟩
theorem rx_fsc.mono {N N' : Nat} {F : rx_F} (h : rx_fsc N F) (hN : N ≤ N') : rx_fsc N' F := fun f hf => ⟨Nat.lt_of_lt_of_le (h f hf).1 hN, Nat.lt_of_lt_of_le (h f hf).2 hN⟩
theorem rx_R_nxI {d : Nat} {st : List rx_V} {I : rx_I} {r' : Nat → Int} (hR : rx_R D cl A s xa nL H0 z r ad H locs ls) (hI : z.1.length ≤ I.length) (hr : rx_same z.1.length r r') (hsat : rx_sat I r') (hs : ∀ v ∈ st, rx_sc I.length z.2.2.1.length v) : rx_R D cl A s xa nL H0 (rx_nxI I z d st) r' ad H locs ls :=
  ⟨hsat, rx_facts_ext hR.2.1 hR.2.2.1 hr, hR.2.2.1.mono hI, hR.2.2.2.1.ext hI hr rx_sameA.rf, by
    have h := rx_lvh hR
    show lv_has ls nL (rx_lvs r' ad xa (rx_zlv z))
    rw [rx_lvs_ext (rx_lvsc hR) hr rx_sameA.rf]
    exact h, fun q hq => rx_sc.mono (rx_lvsc hR q hq) hI (Nat.le_refl _), hs⟩
theorem rx_n_iv {I : rx_I} (hs : rx_sat I r) (n : Int) : rx_iv r ad xa (rx_n n) = .int (Int32.ofInt n) := by
  show Value.int (Int32.ofInt (rx_ev r (0, n))) = _
  rw [rx_ev0 hs]
theorem rx_nL_iv {I : rx_I} (hs : rx_sat I r) (n : Int) : rx_iv r ad xa (.inr (1, (0, n))) = .long (Int64.ofInt n) := by
  show Value.long (Int64.ofInt (rx_ev r (0, n))) = _
  rw [rx_ev0 hs]
theorem rx_sc0 (hR : rx_R D cl A s xa nL H0 z r ad H locs ls) (k : Nat) (n : Int) : rx_sc z.1.length z.2.2.1.length (.inr (k, (0, n))) := rx_pos hR.1
/-- a value comes on top -/
theorem rx_push {v : rx_V} {w : Value} {d : Nat} (hR : rx_R D cl A s xa nL H0 z r ad H locs ls) (hv : rx_iv r ad xa v = w) (hsc : rx_sc z.1.length z.2.2.1.length v)
    (K : rx_G p l e R s m args below meth c Q D cl A xa nL H0 z.1.length z.2.2.1.length r ad (rx_nx z d (v :: rx_zst z))) : W p l e R s m args below meth c H locs z.2.2.2.1 z.2.2.2.2.1 Q (F0 m (rx_zpc z + d) ls (w :: (rx_zst z).map (rx_iv r ad xa))) := by
  refine rx_at K rx_same.rf rx_sameA.rf (rx_R_nx hR fun x hx => ?_) rfl rfl rfl (by rw [← hv]; rfl)
  rcases List.mem_cons.mp hx with h | h
  · subst h; exact hsc
  · exact rx_stsc hR x h
end RXP
def rx_h_push (v : rx_V) (d : Nat) (z : rx_Z) : Option (List rx_Z) := some [rx_nx z d (v :: rx_zst z)]
def rx_h_load (kd i d : Nat) (z : rx_Z) : Option (List rx_Z) := match rx_lk (rx_zlv z) i with
  | some (.inr (j, e)) => if j = kd then some [rx_nx z d (.inr (j, e) :: rx_zst z)] else none
  | _ => none
def rx_h_loadA (i d : Nat) (z : rx_Z) : Option (List rx_Z) := match rx_lk (rx_zlv z) i with
  | some (.inl o) => some [rx_nx z d (.inl o :: rx_zst z)]
  | some (.inr (j + 2, e)) => some [rx_nx z d (.inr (j + 2, e) :: rx_zst z)]
  | _ => none
def rx_h_istore (nL i d : Nat) (z : rx_Z) : Option (List rx_Z) := match rx_pi (rx_zst z) with
  | some (e, t) => if i < nL then some [rx_nxl ((i, .inr (0, e)) :: rx_del (rx_zlv z) i) z d t] else none
  | none => none
def rx_h_lstore (nL i d : Nat) (z : rx_Z) : Option (List rx_Z) := match rx_pl (rx_zst z) with
  | some (e, t) => if i + 1 < nL then some [rx_nxl ((i, .inr (1, e)) :: rx_del2 (rx_zlv z) i) z d t] else none
  | none => none
def rx_h_astore (nL i d : Nat) (z : rx_Z) : Option (List rx_Z) := match rx_pr (rx_zst z) with
  | some (o, t) => if i < nL then some [rx_nxl ((i, .inl o) :: rx_del (rx_zlv z) i) z d t] else none
  | none => none
def rx_h_iinc (nL i : Nat) (n : Int) (z : rx_Z) : Option (List rx_Z) := match rx_lk (rx_zlv z) i with
  | some (.inr (0, e)) => match rx_bin 0 z.1 e (0, n) with
    | some (I, e2) => if i < nL then some [(I, z.2.1, z.2.2.1, z.2.2.2.1, z.2.2.2.2.1, rx_zpc z + 3, (i, .inr (0, e2)) :: rx_del (rx_zlv z) i, rx_zst z)] else none
    | none => none
  | _ => none
def rx_h_bin (o : Nat) (z : rx_Z) : Option (List rx_Z) := match rx_pi (rx_zst z) with
  | some (b, t) => match rx_pi t with
    | some (a, t) => match rx_bin o z.1 a b with
      | some (I, e) => some [rx_nxI I z 1 (.inr (0, e) :: t)]
      | none => none
    | none => none
  | none => none
/-- a divisor whose bounds shut 0 out -/
def rx_nz (b : Option (Int × Int)) : Bool := match b with
  | some (lo, hi) => decide (0 < lo) || decide (hi < 0)
  | none => false
def rx_h_div (o : Nat) (z : rx_Z) : Option (List rx_Z) := match rx_pi (rx_zst z) with
  | some (b, t) => if rx_nz (rx_bi z.1 b) then rx_h_bin o z else none
  | none => none
def rx_h_binL (o : Nat) (z : rx_Z) : Option (List rx_Z) := match rx_pl (rx_zst z) with
  | some (b, t) => match rx_pl t with
    | some (a, t) => some [rx_nxI (rx_binL o z.1 a b).1 z 1 (.inr (1, (rx_binL o z.1 a b).2) :: t)]
    | none => none
  | none => none
def rx_h_divL (o : Nat) (z : rx_Z) : Option (List rx_Z) := match rx_pl (rx_zst z) with
  | some (b, t) => if rx_nz (rx_bl z.1 b) then rx_h_binL o z else none
  | none => none
def rx_h_ineg (z : rx_Z) : Option (List rx_Z) := match rx_pi (rx_zst z) with
  | some (a, t) => match rx_bin 1 z.1 (0, 0) a with
    | some (I, e) => some [rx_nxI I z 1 (.inr (0, e) :: t)]
    | none => none
  | none => none
def rx_h_i2l (z : rx_Z) : Option (List rx_Z) := match rx_pi (rx_zst z) with
  | some (a, t) => match rx_bi z.1 a with
    | some _ => some [rx_nx z 1 (.inr (1, a) :: t)]
    | none => none
  | none => none
def rx_h_dup (z : rx_Z) : Option (List rx_Z) := match rx_pv (rx_zst z) with
  | some (v, t) => if rx_k2 v then none else some [rx_nx z 1 (v :: v :: t)]
  | none => none
def rx_h_pop (z : rx_Z) : Option (List rx_Z) := match rx_pv (rx_zst z) with
  | some (v, t) => if rx_k2 v then none else some [rx_nx z 1 t]
  | none => none
def rx_h_dup2 (z : rx_Z) : Option (List rx_Z) := match rx_pv (rx_zst z) with
  | some (v, t) => if rx_k2 v then some [rx_nx z 1 (v :: v :: t)] else match rx_pv t with
    | some (w, t) => if rx_k2 w then none else some [rx_nx z 1 (v :: w :: v :: w :: t)]
    | none => none
  | none => none
section RXQ
variable {p : Program} {l : Launch} {e : Env} {R : Room} {s : State} {m : MethodId} {args : Array Value} {below : List Frame} {meth : Method} {c : Code} {Q : State → Prop}
variable {D : va_G} {cl : List vw_C} {A : Nat → Prop} {xa : Nat → Nat} {nL : Nat} {H0 H : Heap} {locs : List Loc} {ls : Array Slot} {r : Nat → Int} {ad : Nat → Nat}
variable {cc : ByteArray} {z : rx_Z} {zs : List rx_Z}
theorem rx_h_push_ok {v : rx_V} {w : Value} {d : Nat} (hR : rx_R D cl A s xa nL H0 z r ad H locs ls) (hz : rx_h_push v d z = some zs) (hv : rx_iv r ad xa v = w) (hsc : rx_sc z.1.length z.2.2.1.length v)
    (row : W p l e R s m args below meth c H locs z.2.2.2.1 z.2.2.2.2.1 Q (F0 m (rx_zpc z + d) ls (w :: (rx_zst z).map (rx_iv r ad xa))) → W p l e R s m args below meth c H locs z.2.2.2.1 z.2.2.2.2.1 Q (F0 m (rx_zpc z) ls ((rx_zst z).map (rx_iv r ad xa))))
    (K : ∀ z' ∈ zs, rx_G p l e R s m args below meth c Q D cl A xa nL H0 z.1.length z.2.2.1.length r ad z') : W p l e R s m args below meth c H locs z.2.2.2.1 z.2.2.2.2.1 Q (F0 m (rx_zpc z) ls ((rx_zst z).map (rx_iv r ad xa))) := by
  unfold rx_h_push at hz
  cases hz
  exact row (rx_push hR hv hsc (K _ List.mem_cons_self))
theorem rx_h_load_ok {kd i d : Nat} (hR : rx_R D cl A s xa nL H0 z r ad H locs ls) (hz : rx_h_load kd i d z = some zs)
    (row : ∀ e0 : rx_E, ls[i]? = some (.val (rx_iv r ad xa (.inr (kd, e0)))) → W p l e R s m args below meth c H locs z.2.2.2.1 z.2.2.2.2.1 Q (F0 m (rx_zpc z + d) ls (rx_iv r ad xa (.inr (kd, e0)) :: (rx_zst z).map (rx_iv r ad xa))) → W p l e R s m args below meth c H locs z.2.2.2.1 z.2.2.2.2.1 Q (F0 m (rx_zpc z) ls ((rx_zst z).map (rx_iv r ad xa))))
    (K : ∀ z' ∈ zs, rx_G p l e R s m args below meth c Q D cl A xa nL H0 z.1.length z.2.2.1.length r ad z') : W p l e R s m args below meth c H locs z.2.2.2.1 z.2.2.2.2.1 Q (F0 m (rx_zpc z) ls ((rx_zst z).map (rx_iv r ad xa))) := by
  unfold rx_h_load at hz
  split at hz
  · rename_i j e0 he
    split at hz
    · rename_i hj
      subst hj
      cases hz
      exact row e0 (rx_lv_get (rx_lvh hR) he) (rx_push hR rfl (rx_lvsc hR _ (rx_lk_mem he)) (K _ List.mem_cons_self))
    · cases hz
  · cases hz
theorem rx_h_loadA_ok {i d : Nat} (hR : rx_R D cl A s xa nL H0 z r ad H locs ls) (hz : rx_h_loadA i d z = some zs)
    (rowN : ls[i]? = some (.val .null) → W p l e R s m args below meth c H locs z.2.2.2.1 z.2.2.2.2.1 Q (F0 m (rx_zpc z + d) ls (.null :: (rx_zst z).map (rx_iv r ad xa))) → W p l e R s m args below meth c H locs z.2.2.2.1 z.2.2.2.2.1 Q (F0 m (rx_zpc z) ls ((rx_zst z).map (rx_iv r ad xa))))
    (row : ∀ a : Nat, ls[i]? = some (.val (.ref a)) → W p l e R s m args below meth c H locs z.2.2.2.1 z.2.2.2.2.1 Q (F0 m (rx_zpc z + d) ls (.ref a :: (rx_zst z).map (rx_iv r ad xa))) → W p l e R s m args below meth c H locs z.2.2.2.1 z.2.2.2.2.1 Q (F0 m (rx_zpc z) ls ((rx_zst z).map (rx_iv r ad xa))))
    (K : ∀ z' ∈ zs, rx_G p l e R s m args below meth c Q D cl A xa nL H0 z.1.length z.2.2.1.length r ad z') : W p l e R s m args below meth c H locs z.2.2.2.1 z.2.2.2.2.1 Q (F0 m (rx_zpc z) ls ((rx_zst z).map (rx_iv r ad xa))) := by
  unfold rx_h_loadA at hz
  split at hz
  · rename_i o he
    cases hz
    have hg := rx_lv_get (rx_lvh hR) he
    have hp := rx_push (w := rx_iv r ad xa (.inl o)) (d := d) hR rfl (rx_lvsc hR _ (rx_lk_mem he)) (K _ List.mem_cons_self)
    match o, hg, hp with
    | none, hg, hp => exact rowN hg hp
    | some k, hg, hp => exact row _ hg hp
  · rename_i j e0 he
    cases hz
    exact row (xa e0.2.toNat) (rx_lv_get (rx_lvh hR) he) (rx_push (v := .inr (j + 2, e0)) hR rfl (rx_lvsc hR _ (rx_lk_mem he)) (K _ List.mem_cons_self))
  · cases hz
theorem rx_del_mem {lv : List (Nat × rx_V)} {i : Nat} {q : Nat × rx_V} (h : q ∈ rx_del lv i) : q ∈ lv := (List.mem_filter.mp h).1
theorem rx_del2_mem {lv : List (Nat × rx_V)} {i : Nat} {q : Nat × rx_V} (h : q ∈ rx_del2 lv i) : q ∈ lv := (List.mem_filter.mp h).1
theorem rx_h_istore_ok {i d : Nat} (hR : rx_R D cl A s xa nL H0 z r ad H locs ls) (hz : rx_h_istore nL i d z = some zs)
    (row : ∀ (x : Int32) (rest : List Value), i < nL → (∀ ls' : Array Slot, lv_has ls' nL ((i, Value.int x) :: (rx_lvs r ad xa (rx_zlv z)).filter (fun q => !(q.1 == i) && !(q.1 + 1 == i && q.2.category == 2))) → W p l e R s m args below meth c H locs z.2.2.2.1 z.2.2.2.2.1 Q (F0 m (rx_zpc z + d) ls' rest)) → W p l e R s m args below meth c H locs z.2.2.2.1 z.2.2.2.2.1 Q (F0 m (rx_zpc z) ls (.int x :: rest)))
    (K : ∀ z' ∈ zs, rx_G p l e R s m args below meth c Q D cl A xa nL H0 z.1.length z.2.2.1.length r ad z') : W p l e R s m args below meth c H locs z.2.2.2.1 z.2.2.2.2.1 Q (F0 m (rx_zpc z) ls ((rx_zst z).map (rx_iv r ad xa))) := by
  unfold rx_h_istore at hz
  split at hz
  · rename_i e0 t he
    split at hz
    · rename_i hi
      cases hz
      have hst := rx_stsc hR
      rw [rx_pi_ok he] at hst ⊢
      refine row _ _ hi fun ls' hl => ?_
      refine rx_at (K _ List.mem_cons_self) rx_same.rf rx_sameA.rf (rx_R_nxl hR (rx_lv_st (v := .inr (0, e0)) hl) (fun q hq => ?_) (fun v hv => hst v (List.mem_cons_of_mem _ hv))) rfl rfl rfl rfl
      rcases List.mem_cons.mp hq with h | h
      · subst h; exact hst _ List.mem_cons_self
      · exact rx_lvsc hR q (rx_del_mem h)
    · cases hz
  · cases hz
theorem rx_h_lstore_ok {i d : Nat} (hR : rx_R D cl A s xa nL H0 z r ad H locs ls) (hz : rx_h_lstore nL i d z = some zs)
    (row : ∀ (x : Int64) (rest : List Value), i + 1 < nL → (∀ ls' : Array Slot, lv_has ls' nL ((i, Value.long x) :: (rx_lvs r ad xa (rx_zlv z)).filter (fun q => !(q.1 == i) && (!(q.1 == i + 1) && !(q.1 + 1 == i && q.2.category == 2)))) → W p l e R s m args below meth c H locs z.2.2.2.1 z.2.2.2.2.1 Q (F0 m (rx_zpc z + d) ls' rest)) → W p l e R s m args below meth c H locs z.2.2.2.1 z.2.2.2.2.1 Q (F0 m (rx_zpc z) ls (.long x :: rest)))
    (K : ∀ z' ∈ zs, rx_G p l e R s m args below meth c Q D cl A xa nL H0 z.1.length z.2.2.1.length r ad z') : W p l e R s m args below meth c H locs z.2.2.2.1 z.2.2.2.2.1 Q (F0 m (rx_zpc z) ls ((rx_zst z).map (rx_iv r ad xa))) := by
  unfold rx_h_lstore at hz
  split at hz
  · rename_i e0 t he
    split at hz
    · rename_i hi
      cases hz
      have hst := rx_stsc hR
      rw [rx_pl_ok he] at hst ⊢
      refine row _ _ hi fun ls' hl => ?_
      refine rx_at (K _ List.mem_cons_self) rx_same.rf rx_sameA.rf (rx_R_nxl hR (rx_lv_st2 (v := .inr (1, e0)) hl) (fun q hq => ?_) (fun v hv => hst v (List.mem_cons_of_mem _ hv))) rfl rfl rfl rfl
      rcases List.mem_cons.mp hq with h | h
      · subst h; exact hst _ List.mem_cons_self
      · exact rx_lvsc hR q (rx_del2_mem h)
    · cases hz
  · cases hz
theorem rx_h_astore_ok {i d : Nat} (hR : rx_R D cl A s xa nL H0 z r ad H locs ls) (hz : rx_h_astore nL i d z = some zs)
    (row : ∀ (o : Option Nat) (rest : List Value), i < nL → (∀ ls' : Array Slot, lv_has ls' nL ((i, rx_iv r ad xa (.inl o)) :: (rx_lvs r ad xa (rx_zlv z)).filter (fun q => !(q.1 == i) && !(q.1 + 1 == i && q.2.category == 2))) → W p l e R s m args below meth c H locs z.2.2.2.1 z.2.2.2.2.1 Q (F0 m (rx_zpc z + d) ls' rest)) → W p l e R s m args below meth c H locs z.2.2.2.1 z.2.2.2.2.1 Q (F0 m (rx_zpc z) ls (rx_iv r ad xa (.inl o) :: rest)))
    (K : ∀ z' ∈ zs, rx_G p l e R s m args below meth c Q D cl A xa nL H0 z.1.length z.2.2.1.length r ad z') : W p l e R s m args below meth c H locs z.2.2.2.1 z.2.2.2.2.1 Q (F0 m (rx_zpc z) ls ((rx_zst z).map (rx_iv r ad xa))) := by
  unfold rx_h_astore at hz
  split at hz
  · rename_i o t he
    split at hz
    · rename_i hi
      cases hz
      have hst := rx_stsc hR
      rw [rx_pr_ok he] at hst ⊢
      refine row _ _ hi fun ls' hl => ?_
      refine rx_at (K _ List.mem_cons_self) rx_same.rf rx_sameA.rf (rx_R_nxl hR (rx_lv_st (v := .inl o) hl) (fun q hq => ?_) (fun v hv => hst v (List.mem_cons_of_mem _ hv))) rfl rfl rfl rfl
      rcases List.mem_cons.mp hq with h | h
      · subst h; exact hst _ List.mem_cons_self
      · exact rx_lvsc hR q (rx_del_mem h)
    · cases hz
  · cases hz
/-- a number comes on top, with new symbols -/
theorem rx_pushI {kd d : Nat} {I : rx_I} {e0 : rx_E} {t : List rx_V} {r' : Nat → Int} {w : Value} (hR : rx_R D cl A s xa nL H0 z r ad H locs ls) (ht : ∀ v ∈ t, rx_sc z.1.length z.2.2.1.length v) (hr : rx_same z.1.length r r') (hsat : rx_sat I r') (hI : z.1.length ≤ I.length) (he : e0.1 < I.length) (hw : rx_iv r' ad xa (.inr (kd, e0)) = w)
    (K : rx_G p l e R s m args below meth c Q D cl A xa nL H0 z.1.length z.2.2.1.length r ad (rx_nxI I z d (.inr (kd, e0) :: t))) : W p l e R s m args below meth c H locs z.2.2.2.1 z.2.2.2.2.1 Q (F0 m (rx_zpc z + d) ls (w :: t.map (rx_iv r ad xa))) := by
  refine rx_at K hr rx_sameA.rf (rx_R_nxI hR hI hr hsat fun v hv => ?_) rfl rfl rfl ?_
  · rcases List.mem_cons.mp hv with h | h
    · subst h; exact he
    · exact rx_sc.mono (ht v h) hI (Nat.le_refl _)
  · show rx_iv r' ad xa (.inr (kd, e0)) :: t.map (rx_iv r' ad xa) = _
    rw [hw, rx_st_ext ht hr rx_sameA.rf]
theorem rx_h_bin_ok {o : Nat} (hR : rx_R D cl A s xa nL H0 z r ad H locs ls) (hz : rx_h_bin o z = some zs)
    (row : ∀ (a b : rx_E) (t : List rx_V), rx_zst z = .inr (0, b) :: .inr (0, a) :: t → W p l e R s m args below meth c H locs z.2.2.2.1 z.2.2.2.2.1 Q (F0 m (rx_zpc z + 1) ls (.int (rx_op o (Int32.ofInt (rx_ev r a)) (Int32.ofInt (rx_ev r b))) :: t.map (rx_iv r ad xa))) → W p l e R s m args below meth c H locs z.2.2.2.1 z.2.2.2.2.1 Q (F0 m (rx_zpc z) ls (.int (Int32.ofInt (rx_ev r b)) :: .int (Int32.ofInt (rx_ev r a)) :: t.map (rx_iv r ad xa))))
    (K : ∀ z' ∈ zs, rx_G p l e R s m args below meth c Q D cl A xa nL H0 z.1.length z.2.2.1.length r ad z') : W p l e R s m args below meth c H locs z.2.2.2.1 z.2.2.2.2.1 Q (F0 m (rx_zpc z) ls ((rx_zst z).map (rx_iv r ad xa))) := by
  unfold rx_h_bin at hz
  split at hz
  · rename_i b t hb
    split at hz
    · rename_i a t2 ha
      split at hz
      · rename_i I2 e2 he
        cases hz
        have e1 := rx_pi_ok hb
        have e3 := rx_pi_ok ha
        subst e3
        have hst := rx_stsc hR
        obtain ⟨r', q1, q2, q3, q4, q5⟩ := rx_bin_ok hR.1 he
        have rw1 := row a b t2 e1
        rw [e1] at hst ⊢
        exact rw1 (rx_pushI hR (fun v hv => hst v (List.mem_cons_of_mem _ (List.mem_cons_of_mem _ hv))) q1 q2 q4 q5 (by show Value.int (Int32.ofInt (rx_ev r' e2)) = _; rw [q3]) (K _ List.mem_cons_self))
      · cases hz
    · cases hz
  · cases hz
theorem rx_nz_ok {I : rx_I} {b : rx_E} (h : rx_sat I r) (hn : rx_nz (rx_bi I b) = true) : ¬ Int32.ofInt (rx_ev r b) = 0 := by
  unfold rx_nz at hn
  split at hn
  · rename_i lo hi he
    obtain ⟨h1, h2, h3, -⟩ := rx_bi_ok h he
    intro q
    rw [q, Int32.toInt_zero] at h3
    rw [Bool.or_eq_true, decide_eq_true_eq, decide_eq_true_eq] at hn
    omega
  · exact absurd hn Bool.false_ne_true
theorem rx_nzL_ok {I : rx_I} {b : rx_E} (h : rx_sat I r) (hn : rx_nz (rx_bl I b) = true) : ¬ Int64.ofInt (rx_ev r b) = 0 := by
  unfold rx_nz at hn
  split at hn
  · rename_i lo hi he
    obtain ⟨h1, h2, h3, -⟩ := rx_bl_ok h he
    intro q
    rw [q, Int64.toInt_zero] at h3
    rw [Bool.or_eq_true, decide_eq_true_eq, decide_eq_true_eq] at hn
    omega
  · exact absurd hn Bool.false_ne_true
theorem rx_h_div_ok {o : Nat} (hR : rx_R D cl A s xa nL H0 z r ad H locs ls) (hz : rx_h_div o z = some zs)
    (row : ∀ (x y : Int32) (rest : List Value), ¬ y = 0 → W p l e R s m args below meth c H locs z.2.2.2.1 z.2.2.2.2.1 Q (F0 m (rx_zpc z + 1) ls (.int (rx_op o x y) :: rest)) → W p l e R s m args below meth c H locs z.2.2.2.1 z.2.2.2.2.1 Q (F0 m (rx_zpc z) ls (.int y :: .int x :: rest)))
    (K : ∀ z' ∈ zs, rx_G p l e R s m args below meth c Q D cl A xa nL H0 z.1.length z.2.2.1.length r ad z') : W p l e R s m args below meth c H locs z.2.2.2.1 z.2.2.2.2.1 Q (F0 m (rx_zpc z) ls ((rx_zst z).map (rx_iv r ad xa))) := by
  unfold rx_h_div at hz
  split at hz
  · rename_i b t hb
    split at hz
    · rename_i hn
      refine rx_h_bin_ok hR hz (fun a b' t' e k => row _ _ _ ?_ k) K
      have e1 := rx_pi_ok hb
      rw [e] at e1
      cases e1
      exact rx_nz_ok hR.1 hn
    · cases hz
  · cases hz
theorem rx_h_binL_ok {o : Nat} (hR : rx_R D cl A s xa nL H0 z r ad H locs ls) (hz : rx_h_binL o z = some zs)
    (row : ∀ (a b : rx_E) (t : List rx_V), rx_zst z = .inr (1, b) :: .inr (1, a) :: t → W p l e R s m args below meth c H locs z.2.2.2.1 z.2.2.2.2.1 Q (F0 m (rx_zpc z + 1) ls (.long (rx_opL o (Int64.ofInt (rx_ev r a)) (Int64.ofInt (rx_ev r b))) :: t.map (rx_iv r ad xa))) → W p l e R s m args below meth c H locs z.2.2.2.1 z.2.2.2.2.1 Q (F0 m (rx_zpc z) ls (.long (Int64.ofInt (rx_ev r b)) :: .long (Int64.ofInt (rx_ev r a)) :: t.map (rx_iv r ad xa))))
    (K : ∀ z' ∈ zs, rx_G p l e R s m args below meth c Q D cl A xa nL H0 z.1.length z.2.2.1.length r ad z') : W p l e R s m args below meth c H locs z.2.2.2.1 z.2.2.2.2.1 Q (F0 m (rx_zpc z) ls ((rx_zst z).map (rx_iv r ad xa))) := by
  unfold rx_h_binL at hz
  split at hz
  · rename_i b t hb
    split at hz
    · rename_i a t2 ha
      cases hz
      have e1 := rx_pl_ok hb
      have e3 := rx_pl_ok ha
      subst e3
      have hst := rx_stsc hR
      obtain ⟨r', q1, q2, q3, q4, q5⟩ := rx_binL_ok (o := o) (a := a) (b := b) hR.1
      have rw1 := row a b t2 e1
      rw [e1] at hst ⊢
      exact rw1 (rx_pushI hR (fun v hv => hst v (List.mem_cons_of_mem _ (List.mem_cons_of_mem _ hv))) q1 q2 q4 q5 (by show Value.long (Int64.ofInt (rx_ev r' _)) = _; rw [q3]) (K _ List.mem_cons_self))
    · cases hz
  · cases hz
theorem rx_h_divL_ok {o : Nat} (hR : rx_R D cl A s xa nL H0 z r ad H locs ls) (hz : rx_h_divL o z = some zs)
    (row : ∀ (x y : Int64) (rest : List Value), ¬ y = 0 → W p l e R s m args below meth c H locs z.2.2.2.1 z.2.2.2.2.1 Q (F0 m (rx_zpc z + 1) ls (.long (rx_opL o x y) :: rest)) → W p l e R s m args below meth c H locs z.2.2.2.1 z.2.2.2.2.1 Q (F0 m (rx_zpc z) ls (.long y :: .long x :: rest)))
    (K : ∀ z' ∈ zs, rx_G p l e R s m args below meth c Q D cl A xa nL H0 z.1.length z.2.2.1.length r ad z') : W p l e R s m args below meth c H locs z.2.2.2.1 z.2.2.2.2.1 Q (F0 m (rx_zpc z) ls ((rx_zst z).map (rx_iv r ad xa))) := by
  unfold rx_h_divL at hz
  split at hz
  · rename_i b t hb
    split at hz
    · rename_i hn
      refine rx_h_binL_ok hR hz (fun a b' t' e k => row _ _ _ ?_ k) K
      have e1 := rx_pl_ok hb
      rw [e] at e1
      cases e1
      exact rx_nzL_ok hR.1 hn
    · cases hz
  · cases hz
theorem rx_h_ineg_ok (hR : rx_R D cl A s xa nL H0 z r ad H locs ls) (hz : rx_h_ineg z = some zs)
    (row : ∀ (x : Int32) (rest : List Value), W p l e R s m args below meth c H locs z.2.2.2.1 z.2.2.2.2.1 Q (F0 m (rx_zpc z + 1) ls (.int (-x) :: rest)) → W p l e R s m args below meth c H locs z.2.2.2.1 z.2.2.2.2.1 Q (F0 m (rx_zpc z) ls (.int x :: rest)))
    (K : ∀ z' ∈ zs, rx_G p l e R s m args below meth c Q D cl A xa nL H0 z.1.length z.2.2.1.length r ad z') : W p l e R s m args below meth c H locs z.2.2.2.1 z.2.2.2.2.1 Q (F0 m (rx_zpc z) ls ((rx_zst z).map (rx_iv r ad xa))) := by
  unfold rx_h_ineg at hz
  split at hz
  · rename_i a t ha
    split at hz
    · rename_i I2 e2 he
      cases hz
      have hst := rx_stsc hR
      obtain ⟨r', q1, q2, q3, q4, q5⟩ := rx_bin_ok hR.1 he
      rw [rx_pi_ok ha] at hst ⊢
      refine row _ _ (rx_pushI hR (fun v hv => hst v (List.mem_cons_of_mem _ hv)) q1 q2 q4 q5 ?_ (K _ List.mem_cons_self))
      show Value.int (Int32.ofInt (rx_ev r' e2)) = _
      rw [q3, rx_ev0 hR.1]
      show Value.int (Int32.ofInt 0 - _) = _
      rw [show Int32.ofInt 0 = 0 from rfl, Int32.zero_sub]
    · cases hz
  · cases hz
theorem rx_h_i2l_ok (hR : rx_R D cl A s xa nL H0 z r ad H locs ls) (hz : rx_h_i2l z = some zs)
    (row : ∀ (x : Int32) (rest : List Value), W p l e R s m args below meth c H locs z.2.2.2.1 z.2.2.2.2.1 Q (F0 m (rx_zpc z + 1) ls (.long x.toInt64 :: rest)) → W p l e R s m args below meth c H locs z.2.2.2.1 z.2.2.2.2.1 Q (F0 m (rx_zpc z) ls (.int x :: rest)))
    (K : ∀ z' ∈ zs, rx_G p l e R s m args below meth c Q D cl A xa nL H0 z.1.length z.2.2.1.length r ad z') : W p l e R s m args below meth c H locs z.2.2.2.1 z.2.2.2.2.1 Q (F0 m (rx_zpc z) ls ((rx_zst z).map (rx_iv r ad xa))) := by
  unfold rx_h_i2l at hz
  split at hz
  · rename_i a t ha
    split at hz
    · rename_i b he
      cases hz
      have hst := rx_stsc hR
      obtain ⟨lo, hi⟩ := b
      obtain ⟨h1, h2, h3, h4⟩ := rx_bi_ok hR.1 he
      rw [rx_pi_ok ha] at hst ⊢
      refine row _ _ (rx_at (K _ List.mem_cons_self) rx_same.rf rx_sameA.rf (rx_R_nx hR fun v hv => ?_) rfl rfl rfl ?_)
      · rcases List.mem_cons.mp hv with h | h
        · subst h; exact h4
        · exact hst v (List.mem_cons_of_mem _ h)
      · show Value.long (Int64.ofInt (rx_ev r a)) :: _ = Value.long (Int32.ofInt (rx_ev r a)).toInt64 :: _
        congr 2
        have h5 := rx_b32 (Int32.ofInt (rx_ev r a))
        rw [h3] at h5
        apply Int64.toInt_inj.mp
        rw [rx_i64 (by omega) (by omega), Int32.toInt_toInt64, h3]
    · cases hz
  · cases hz
theorem rx_h_dup_ok (hR : rx_R D cl A s xa nL H0 z r ad H locs ls) (hz : rx_h_dup z = some zs)
    (row : ∀ (v : Value) (rest : List Value), v.category = 1 → W p l e R s m args below meth c H locs z.2.2.2.1 z.2.2.2.2.1 Q (F0 m (rx_zpc z + 1) ls (v :: v :: rest)) → W p l e R s m args below meth c H locs z.2.2.2.1 z.2.2.2.2.1 Q (F0 m (rx_zpc z) ls (v :: rest)))
    (K : ∀ z' ∈ zs, rx_G p l e R s m args below meth c Q D cl A xa nL H0 z.1.length z.2.2.1.length r ad z') : W p l e R s m args below meth c H locs z.2.2.2.1 z.2.2.2.2.1 Q (F0 m (rx_zpc z) ls ((rx_zst z).map (rx_iv r ad xa))) := by
  unfold rx_h_dup at hz
  split at hz
  · rename_i v t hv
    split at hz
    · cases hz
    · rename_i hk
      cases hz
      have hst := rx_stsc hR
      rw [rx_pv_ok hv] at hst ⊢
      refine row _ _ (rx_cat (Bool.eq_false_iff.mpr hk)) (rx_at (K _ List.mem_cons_self) rx_same.rf rx_sameA.rf (rx_R_nx hR fun x hx => ?_) rfl rfl rfl rfl)
      rcases List.mem_cons.mp hx with h | h
      · subst h; exact hst _ List.mem_cons_self
      · exact hst x h
  · cases hz
theorem rx_h_pop_ok (hR : rx_R D cl A s xa nL H0 z r ad H locs ls) (hz : rx_h_pop z = some zs)
    (row : ∀ (v : Value) (rest : List Value), v.category = 1 → W p l e R s m args below meth c H locs z.2.2.2.1 z.2.2.2.2.1 Q (F0 m (rx_zpc z + 1) ls rest) → W p l e R s m args below meth c H locs z.2.2.2.1 z.2.2.2.2.1 Q (F0 m (rx_zpc z) ls (v :: rest)))
    (K : ∀ z' ∈ zs, rx_G p l e R s m args below meth c Q D cl A xa nL H0 z.1.length z.2.2.1.length r ad z') : W p l e R s m args below meth c H locs z.2.2.2.1 z.2.2.2.2.1 Q (F0 m (rx_zpc z) ls ((rx_zst z).map (rx_iv r ad xa))) := by
  unfold rx_h_pop at hz
  split at hz
  · rename_i v t hv
    split at hz
    · cases hz
    · rename_i hk
      cases hz
      have hst := rx_stsc hR
      rw [rx_pv_ok hv] at hst ⊢
      exact row _ _ (rx_cat (Bool.eq_false_iff.mpr hk)) (rx_at (K _ List.mem_cons_self) rx_same.rf rx_sameA.rf (rx_R_nx hR fun x hx => hst x (List.mem_cons_of_mem _ hx)) rfl rfl rfl rfl)
  · cases hz
theorem rx_h_dup2_ok (hR : rx_R D cl A s xa nL H0 z r ad H locs ls) (hz : rx_h_dup2 z = some zs)
    (row2 : ∀ (v : Value) (rest : List Value), v.category = 2 → W p l e R s m args below meth c H locs z.2.2.2.1 z.2.2.2.2.1 Q (F0 m (rx_zpc z + 1) ls (v :: v :: rest)) → W p l e R s m args below meth c H locs z.2.2.2.1 z.2.2.2.2.1 Q (F0 m (rx_zpc z) ls (v :: rest)))
    (row : ∀ (v w : Value) (rest : List Value), v.category = 1 → w.category = 1 → W p l e R s m args below meth c H locs z.2.2.2.1 z.2.2.2.2.1 Q (F0 m (rx_zpc z + 1) ls (v :: w :: v :: w :: rest)) → W p l e R s m args below meth c H locs z.2.2.2.1 z.2.2.2.2.1 Q (F0 m (rx_zpc z) ls (v :: w :: rest)))
    (K : ∀ z' ∈ zs, rx_G p l e R s m args below meth c Q D cl A xa nL H0 z.1.length z.2.2.1.length r ad z') : W p l e R s m args below meth c H locs z.2.2.2.1 z.2.2.2.2.1 Q (F0 m (rx_zpc z) ls ((rx_zst z).map (rx_iv r ad xa))) := by
  unfold rx_h_dup2 at hz
  split at hz
  · rename_i v t hv
    have hst := rx_stsc hR
    rw [rx_pv_ok hv] at hst ⊢
    split at hz
    · rename_i hk
      cases hz
      refine row2 _ _ (rx_cat2 hk) (rx_at (K _ List.mem_cons_self) rx_same.rf rx_sameA.rf (rx_R_nx hR fun x hx => ?_) rfl rfl rfl rfl)
      rcases List.mem_cons.mp hx with h | h
      · subst h; exact hst _ List.mem_cons_self
      · exact hst x h
    · rename_i hk
      split at hz
      · rename_i w t2 hw
        have e2 := rx_pv_ok hw
        subst e2
        split at hz
        · cases hz
        · rename_i hk2
          cases hz
          refine row _ _ _ (rx_cat (Bool.eq_false_iff.mpr hk)) (rx_cat (Bool.eq_false_iff.mpr hk2)) (rx_at (K _ List.mem_cons_self) rx_same.rf rx_sameA.rf (rx_R_nx hR fun x hx => ?_) rfl rfl rfl rfl)
          rcases List.mem_cons.mp hx with h | h
          · subst h; exact hst _ List.mem_cons_self
          · rcases List.mem_cons.mp h with h | h
            · subst h; exact hst _ (List.mem_cons_of_mem _ List.mem_cons_self)
            · exact hst x h
      · cases hz
  · cases hz
theorem rx_h_iinc_ok {i : Nat} {n : Int} (hR : rx_R D cl A s xa nL H0 z r ad H locs ls) (hz : rx_h_iinc nL i n z = some zs)
    (row : ∀ (x v : Int32) (k : Nat), i < nL → (rx_lvs r ad xa (rx_zlv z))[k]? = some (i, Value.int x) → x + Int32.ofInt n = v → (∀ ls' : Array Slot, lv_has ls' nL ((i, Value.int v) :: (rx_lvs r ad xa (rx_zlv z)).filter (fun q => !(q.1 == i) && !(q.1 + 1 == i && q.2.category == 2))) → W p l e R s m args below meth c H locs z.2.2.2.1 z.2.2.2.2.1 Q (F0 m (rx_zpc z + 3) ls' ((rx_zst z).map (rx_iv r ad xa)))) → W p l e R s m args below meth c H locs z.2.2.2.1 z.2.2.2.2.1 Q (F0 m (rx_zpc z) ls ((rx_zst z).map (rx_iv r ad xa))))
    (K : ∀ z' ∈ zs, rx_G p l e R s m args below meth c Q D cl A xa nL H0 z.1.length z.2.2.1.length r ad z') : W p l e R s m args below meth c H locs z.2.2.2.1 z.2.2.2.2.1 Q (F0 m (rx_zpc z) ls ((rx_zst z).map (rx_iv r ad xa))) := by
  unfold rx_h_iinc at hz
  split at hz
  · rename_i e0 he
    split at hz
    · rename_i I2 e2 hb
      split at hz
      · rename_i hi
        cases hz
        obtain ⟨r', q1, q2, q3, q4, q5⟩ := rx_bin_ok hR.1 hb
        have hmem : (i, rx_iv r ad xa (.inr (0, e0))) ∈ rx_lvs r ad xa (rx_zlv z) := List.mem_map.mpr ⟨(i, .inr (0, e0)), rx_lk_mem he, rfl⟩
        obtain ⟨k, hk⟩ := List.getElem?_of_mem hmem
        have hv : Int32.ofInt (rx_ev r e0) + Int32.ofInt n = Int32.ofInt (rx_ev r' e2) := by
          rw [q3, rx_ev0 hR.1]
          rfl
        refine row _ _ k hi hk hv fun ls' hl => ?_
        have hl2 : lv_has ls' nL (rx_lvs r' ad xa ((i, .inr (0, e2)) :: rx_del (rx_zlv z) i)) := by
          refine rx_lv_st ?_
          rw [rx_lvs_ext (rx_lvsc hR) q1 rx_sameA.rf]
          exact hl
        refine rx_at (K _ List.mem_cons_self) q1 rx_sameA.rf ⟨q2, rx_facts_ext hR.2.1 hR.2.2.1 q1, hR.2.2.1.mono q4, hR.2.2.2.1.ext q4 q1 rx_sameA.rf, hl2, fun q hq => ?_, fun v hv => rx_sc.mono (rx_stsc hR v hv) q4 (Nat.le_refl _)⟩ rfl rfl rfl ?_
        · rcases List.mem_cons.mp hq with h | h
          · subst h; exact q5
          · exact rx_sc.mono (rx_lvsc hR q (rx_del_mem h)) q4 (Nat.le_refl _)
        · show (rx_zst z).map (rx_iv r' ad xa) = (rx_zst z).map (rx_iv r ad xa)
          exact rx_st_ext (rx_stsc hR) q1 rx_sameA.rf
      · cases hz
    · cases hz
  · cases hz
end RXQ
end
section
/-! A REFLECTED MACHINE, part 5: branches -/
def rx_jp (I : rx_I) (F : rx_F) (z : rx_Z) (pc : Nat) (st : List rx_V) : rx_Z := match z with
  | (_, _, ht0, c0, s0, _, lv0, _) => (I, F, ht0, c0, s0, pc, lv0, st)
/-- the way that is gone if a fact holds: none, if it can't -/
def rx_way (z : rx_Z) (f : Nat × rx_E × rx_E) (pc : Nat) (st : List rx_V) : List rx_Z := match rx_bd z.1 f.2.1, rx_bd z.1 f.2.2 with
  | some (al, ah), some (bl, bh) => match rx_asm z.1 z.2.1 f.1 f.2.1 f.2.2 al ah bl bh with
    | some (I, F) => [rx_jp I F z pc st]
    | none => []
  | _, _ => [rx_jp z.1 z.2.1 z pc st]
def rx_okI (I : rx_I) (e : rx_E) : Bool := (rx_bi I e).isSome
def rx_okL (I : rx_I) (e : rx_E) : Bool := (rx_bl I e).isSome
def rx_fork (z : rx_Z) (cnd : Jvm.ClassFile.Cond) (a b : rx_E) (tgt nx : Nat) (st : List rx_V) : List rx_Z :=
  rx_way z (rx_cnd cnd (rx_nm z.1 a) (rx_nm z.1 b)).1 tgt st ++ rx_way z (rx_cnd cnd (rx_nm z.1 a) (rx_nm z.1 b)).2 nx st
def rx_off (pc : Nat) (off : Int) : Option Nat := if 0 ≤ (pc : Int) + off then some ((pc : Int) + off).toNat else none
def rx_h_if (cnd : Jvm.ClassFile.Cond) (off : Int) (z : rx_Z) : Option (List rx_Z) := match rx_pi (rx_zst z), rx_off (rx_zpc z) off with
  | some (a, t), some tgt => if rx_okI z.1 a then some (rx_fork z cnd a (0, 0) tgt (rx_zpc z + 3) t) else none
  | _, _ => none
def rx_h_icmp (cnd : Jvm.ClassFile.Cond) (off : Int) (z : rx_Z) : Option (List rx_Z) := match rx_pi (rx_zst z), rx_off (rx_zpc z) off with
  | some (b, t), some tgt => match rx_pi t with
    | some (a, t) => if rx_okI z.1 a && rx_okI z.1 b then some (rx_fork z cnd a b tgt (rx_zpc z + 3) t) else none
    | none => none
  | _, _ => none
def rx_h_lcmp (nx : Except DecodeError (Instr × Nat)) (z : rx_Z) : Option (List rx_Z) := match rx_pl (rx_zst z) with
  | some (b, t) => match rx_pl t with
    | some (a, t) => match nx with
      | .ok (.ifCond cnd off, 3) => match rx_off (rx_zpc z + 1) off with
        | some tgt => if rx_okL z.1 a && rx_okL z.1 b then some (rx_fork z cnd a b tgt (rx_zpc z + 4) t) else none
        | none => none
      | _ => none
    | none => none
  | none => none
def rx_h_goto (off : Int) (z : rx_Z) : Option (List rx_Z) := match rx_off (rx_zpc z) off with
  | some tgt => some [rx_jp z.1 z.2.1 z tgt (rx_zst z)]
  | none => none
/-- what a condition says of two numbers -/
def rx_holds (c : Jvm.ClassFile.Cond) (x y : Int) : Prop := match c with
  | .eq => x = y
  | .ne => ¬ x = y
  | .lt => x < y
  | .ge => y ≤ x
  | .gt => y < x
  | .le => x ≤ y
theorem rx_cnd_t {c : Jvm.ClassFile.Cond} {r : Nat → Int} {a b : rx_E} (h : rx_holds c (rx_ev r a) (rx_ev r b)) : rx_fact r (rx_cnd c a b).1 ∧ (rx_cnd c a b).1.1 ≤ 3 := by
  cases c
  · exact ⟨h, Nat.le_of_ble_eq_true rfl⟩
  · exact ⟨h, Nat.le_of_ble_eq_true rfl⟩
  · exact ⟨h, Nat.le_of_ble_eq_true rfl⟩
  · exact ⟨h, Nat.le_of_ble_eq_true rfl⟩
  · exact ⟨h, Nat.le_of_ble_eq_true rfl⟩
  · exact ⟨h, Nat.le_of_ble_eq_true rfl⟩
theorem rx_cnd_f {c : Jvm.ClassFile.Cond} {r : Nat → Int} {a b : rx_E} (h : ¬ rx_holds c (rx_ev r a) (rx_ev r b)) : rx_fact r (rx_cnd c a b).2 ∧ (rx_cnd c a b).2.1 ≤ 3 := by
  cases c
  · exact ⟨h, Nat.le_of_ble_eq_true rfl⟩
  · exact ⟨Classical.not_not.mp h, Nat.le_of_ble_eq_true rfl⟩
  · exact ⟨Int.not_lt.mp h, Nat.le_of_ble_eq_true rfl⟩
  · exact ⟨Int.not_le.mp h, Nat.le_of_ble_eq_true rfl⟩
  · exact ⟨Int.not_lt.mp h, Nat.le_of_ble_eq_true rfl⟩
  · exact ⟨Int.not_le.mp h, Nat.le_of_ble_eq_true rfl⟩
theorem rx_cnd_in {c : Jvm.ClassFile.Cond} {a b : rx_E} {N : Nat} (ha : a.1 < N) (hb : b.1 < N) : ((rx_cnd c a b).1.2.1.1 < N ∧ (rx_cnd c a b).1.2.2.1 < N) ∧ ((rx_cnd c a b).2.2.1.1 < N ∧ (rx_cnd c a b).2.2.2.1 < N) := by
  cases c <;> exact ⟨⟨by first | exact ha | exact hb, by first | exact ha | exact hb⟩, ⟨by first | exact ha | exact hb, by first | exact ha | exact hb⟩⟩
section RXB
variable {p : Program} {l : Launch} {e : Env} {R : Room} {s : State} {m : MethodId} {args : Array Value} {below : List Frame} {meth : Method} {c : Code} {Q : State → Prop}
variable {D : va_G} {cl : List vw_C} {A : Nat → Prop} {xa : Nat → Nat} {nL : Nat} {H0 H : Heap} {locs : List Loc} {ls : Array Slot} {r : Nat → Int} {ad : Nat → Nat}
variable {cc : ByteArray} {z : rx_Z} {zs : List rx_Z}
theorem rx_R_jp {I : rx_I} {F : rx_F} {pc : Nat} {st : List rx_V} (hR : rx_R D cl A s xa nL H0 z r ad H locs ls) (hI : I.length = z.1.length) (hsat : rx_sat I r) (hF : rx_facts F r) (hfs : rx_fsc z.1.length F) (hs : ∀ v ∈ st, rx_sc z.1.length z.2.2.1.length v) : rx_R D cl A s xa nL H0 (rx_jp I F z pc st) r ad H locs ls := by
  obtain ⟨h1, h2, h3, h4, h5, h6, h7⟩ := hR
  refine ⟨hsat, hF, ?_, ?_, h5, ?_, ?_⟩
  · show rx_fsc I.length F
    rw [hI]; exact hfs
  · show rx_W D cl A s xa I.length z.2.2.1 r ad H0 H locs
    rw [hI]; exact h4
  · show ∀ q ∈ rx_zlv z, rx_sc I.length z.2.2.1.length q.2
    rw [hI]; exact h6
  · show ∀ v ∈ st, rx_sc I.length z.2.2.1.length v
    rw [hI]; exact hs
/-- a way is among the goals, if its fact holds -/
theorem rx_way_ok {f : Nat × rx_E × rx_E} {pc : Nat} {st : List rx_V} (hR : rx_R D cl A s xa nL H0 z r ad H locs ls) (hf : rx_fact r f) (hc : f.1 ≤ 3) (h1 : f.2.1.1 < z.1.length) (h2 : f.2.2.1 < z.1.length) (hs : ∀ v ∈ st, rx_sc z.1.length z.2.2.1.length v)
    (K : ∀ z' ∈ rx_way z f pc st, rx_G p l e R s m args below meth c Q D cl A xa nL H0 z.1.length z.2.2.1.length r ad z') : W p l e R s m args below meth c H locs z.2.2.2.1 z.2.2.2.2.1 Q (F0 m pc ls (st.map (rx_iv r ad xa))) := by
  obtain ⟨k, x, y⟩ := f
  unfold rx_way at K
  dsimp only at K hc h1 h2
  split at K
  · rename_i al ah bl bh e1 e2
    have q1 := rx_bd_ok hR.1 e1
    have q2 := rx_bd_ok hR.1 e2
    obtain ⟨I2, F2, g1, g2, g3, g4, g5⟩ := rx_asm_ok (I := z.1) (F := z.2.1) hc hR.1 hR.2.1 hR.2.2.1 h1 h2 ⟨q1.1, q1.2.1⟩ ⟨q2.1, q2.2.1⟩ hf
    rw [g1] at K
    exact rx_at (K _ List.mem_cons_self) rx_same.rf rx_sameA.rf (rx_R_jp hR g5 g2 g3 g4 hs) rfl rfl rfl rfl
  · exact rx_at (K _ List.mem_cons_self) rx_same.rf rx_sameA.rf (rx_R_jp hR rfl hR.1 hR.2.1 hR.2.2.1 hs) rfl rfl rfl rfl
theorem rx_fork_ok {cnd : Jvm.ClassFile.Cond} {a b : rx_E} {tgt nx : Nat} {st : List rx_V} (hR : rx_R D cl A s xa nL H0 z r ad H locs ls) (ha : a.1 < z.1.length) (hb : b.1 < z.1.length) (hs : ∀ v ∈ st, rx_sc z.1.length z.2.2.1.length v)
    (K : ∀ z' ∈ rx_fork z cnd a b tgt nx st, rx_G p l e R s m args below meth c Q D cl A xa nL H0 z.1.length z.2.2.1.length r ad z') :
    (rx_holds cnd (rx_ev r a) (rx_ev r b) → W p l e R s m args below meth c H locs z.2.2.2.1 z.2.2.2.2.1 Q (F0 m tgt ls (st.map (rx_iv r ad xa)))) ∧ (¬ rx_holds cnd (rx_ev r a) (rx_ev r b) → W p l e R s m args below meth c H locs z.2.2.2.1 z.2.2.2.2.1 Q (F0 m nx ls (st.map (rx_iv r ad xa)))) := by
  obtain ⟨a1, a2⟩ := rx_nm_ok (e := a) hR.1
  obtain ⟨b1, b2⟩ := rx_nm_ok (e := b) hR.1
  obtain ⟨⟨i1, i2⟩, i3, i4⟩ := rx_cnd_in (c := cnd) (a2 ha) (b2 hb)
  rw [← a1, ← b1]
  refine ⟨fun h => ?_, fun h => ?_⟩
  · obtain ⟨f1, f2⟩ := rx_cnd_t h
    exact rx_way_ok hR f1 f2 i1 i2 hs fun z' hz => K z' (List.mem_append_left _ hz)
  · obtain ⟨f1, f2⟩ := rx_cnd_f h
    exact rx_way_ok hR f1 f2 i3 i4 hs fun z' hz => K z' (List.mem_append_right _ hz)
theorem rx_off_ok {pc tgt : Nat} {off : Int} (h : rx_off pc off = some tgt) : (pc : Int) + off = (tgt : Int) := by
  unfold rx_off at h
  split at h
  · cases h
    omega
  · cases h
theorem rx_okI_ok {I : rx_I} {a : rx_E} (h : rx_sat I r) (ho : rx_okI I a = true) : (Int32.ofInt (rx_ev r a)).toInt = rx_ev r a ∧ a.1 < I.length := by
  unfold rx_okI at ho
  obtain ⟨b, hb⟩ := Option.isSome_iff_exists.mp ho
  obtain ⟨lo, hi⟩ := b
  exact (rx_bi_ok h hb).2.2
theorem rx_okL_ok {I : rx_I} {a : rx_E} (h : rx_sat I r) (ho : rx_okL I a = true) : (Int64.ofInt (rx_ev r a)).toInt = rx_ev r a ∧ a.1 < I.length := by
  unfold rx_okL at ho
  obtain ⟨b, hb⟩ := Option.isSome_iff_exists.mp ho
  obtain ⟨lo, hi⟩ := b
  exact (rx_bl_ok h hb).2.2
/-- all conditions at once, of one int -/
theorem rx_lv_if (hexec : p.tables.exec = Jvm.exec) (hb : c.code = cc) {k n pc : Nat} {rest : List Value} {x : Int32} {cnd : Jvm.ClassFile.Cond} {off : Int} {tgt : Nat} (hdg : decode cc pc = .ok (.ifCond cnd off, 3)) (ht : (pc : Int) + off = (tgt : Int))
    (kt : rx_holds cnd x.toInt 0 → W p l e R s m args below meth c H locs k n Q (F0 m tgt ls rest)) (kf : ¬ rx_holds cnd x.toInt 0 → W p l e R s m args below meth c H locs k n Q (F0 m (pc + 3) ls rest)) : W p l e R s m args below meth c H locs k n Q (F0 m pc ls (.int x :: rest)) := by
  have z0 : (0 : Int32).toInt = 0 := Int32.toInt_zero
  have ex : (x = 0) ↔ (x.toInt = 0) := by rw [← z0]; exact Int32.toInt_inj.symm
  have el : (x < 0) ↔ (x.toInt < 0) := by rw [Int32.lt_iff_toInt_lt, z0]
  have eg : (0 < x) ↔ (0 < x.toInt) := by rw [Int32.lt_iff_toInt_lt, z0]
  have ege : (0 ≤ x) ↔ (0 ≤ x.toInt) := by rw [Int32.le_iff_toInt_le, z0]
  have ele : (x ≤ 0) ↔ (x.toInt ≤ 0) := by rw [Int32.le_iff_toInt_le, z0]
  cases cnd
  · exact lv_if_eq hexec hb hdg ht (fun h => kt (ex.mp h)) (fun h => kf (fun q => h (ex.mpr q)))
  · exact lv_if_ne hexec hb hdg ht (fun h => kt (fun q => h (ex.mpr q))) (fun h => kf (fun q => q (ex.mp h)))
  · exact lv_if_lt hexec hb hdg ht (fun h => kt (el.mp h)) (fun h => kf (fun q => h (el.mpr q)))
  · exact lv_if_ge hexec hb hdg ht (fun h => kt (ege.mp h)) (fun h => kf (fun q => h (ege.mpr q)))
  · exact lv_if_gt hexec hb hdg ht (fun h => kt (eg.mp h)) (fun h => kf (fun q => h (eg.mpr q)))
  · exact lv_if_le hexec hb hdg ht (fun h => kt (ele.mp h)) (fun h => kf (fun q => h (ele.mpr q)))
theorem rx_lv_icmp (hexec : p.tables.exec = Jvm.exec) (hb : c.code = cc) {k n pc : Nat} {rest : List Value} {x y : Int32} {cnd : Jvm.ClassFile.Cond} {off : Int} {tgt : Nat} (hdg : decode cc pc = .ok (.if_icmp cnd off, 3)) (ht : (pc : Int) + off = (tgt : Int))
    (kt : rx_holds cnd x.toInt y.toInt → W p l e R s m args below meth c H locs k n Q (F0 m tgt ls rest)) (kf : ¬ rx_holds cnd x.toInt y.toInt → W p l e R s m args below meth c H locs k n Q (F0 m (pc + 3) ls rest)) : W p l e R s m args below meth c H locs k n Q (F0 m pc ls (.int y :: .int x :: rest)) := by
  have ex : (x = y) ↔ (x.toInt = y.toInt) := Int32.toInt_inj.symm
  have el : (x < y) ↔ (x.toInt < y.toInt) := Int32.lt_iff_toInt_lt
  have eg : (y < x) ↔ (y.toInt < x.toInt) := Int32.lt_iff_toInt_lt
  have ege : (y ≤ x) ↔ (y.toInt ≤ x.toInt) := Int32.le_iff_toInt_le
  have ele : (x ≤ y) ↔ (x.toInt ≤ y.toInt) := Int32.le_iff_toInt_le
  cases cnd
  · exact lv_icmp_eq hexec hb hdg ht (fun h => kt (ex.mp h)) (fun h => kf (fun q => h (ex.mpr q)))
  · exact lv_icmp_ne hexec hb hdg ht (fun h => kt (fun q => h (ex.mpr q))) (fun h => kf (fun q => q (ex.mp h)))
  · exact lv_icmp_lt hexec hb hdg ht (fun h => kt (el.mp h)) (fun h => kf (fun q => h (el.mpr q)))
  · exact lv_icmp_ge hexec hb hdg ht (fun h => kt (ege.mp h)) (fun h => kf (fun q => h (ege.mpr q)))
  · exact lv_icmp_gt hexec hb hdg ht (fun h => kt (eg.mp h)) (fun h => kf (fun q => h (eg.mpr q)))
  · exact lv_icmp_le hexec hb hdg ht (fun h => kt (ele.mp h)) (fun h => kf (fun q => h (ele.mpr q)))
theorem rx_h_if_ok {cnd : Jvm.ClassFile.Cond} {off : Int} (hexec : p.tables.exec = Jvm.exec) (hb : c.code = cc) (hdg : decode cc (rx_zpc z) = .ok (.ifCond cnd off, 3)) (hR : rx_R D cl A s xa nL H0 z r ad H locs ls) (hz : rx_h_if cnd off z = some zs)
    (K : ∀ z' ∈ zs, rx_G p l e R s m args below meth c Q D cl A xa nL H0 z.1.length z.2.2.1.length r ad z') : W p l e R s m args below meth c H locs z.2.2.2.1 z.2.2.2.2.1 Q (F0 m (rx_zpc z) ls ((rx_zst z).map (rx_iv r ad xa))) := by
  unfold rx_h_if at hz
  split at hz
  · rename_i a t tgt ha ht
    split at hz
    · rename_i ho
      cases hz
      obtain ⟨o1, o2⟩ := rx_okI_ok hR.1 ho
      have hst := rx_stsc hR
      rw [rx_pi_ok ha] at hst ⊢
      obtain ⟨k1, k2⟩ := rx_fork_ok hR o2 (rx_pos hR.1) (fun v hv => hst v (List.mem_cons_of_mem _ hv)) K
      rw [rx_ev0 hR.1] at k1 k2
      exact rx_lv_if hexec hb hdg (rx_off_ok ht) (fun h => k1 (by rw [o1] at h; exact h)) (fun h => k2 (by rw [o1] at h; exact h))
    · cases hz
  · cases hz
theorem rx_h_icmp_ok {cnd : Jvm.ClassFile.Cond} {off : Int} (hexec : p.tables.exec = Jvm.exec) (hb : c.code = cc) (hdg : decode cc (rx_zpc z) = .ok (.if_icmp cnd off, 3)) (hR : rx_R D cl A s xa nL H0 z r ad H locs ls) (hz : rx_h_icmp cnd off z = some zs)
    (K : ∀ z' ∈ zs, rx_G p l e R s m args below meth c Q D cl A xa nL H0 z.1.length z.2.2.1.length r ad z') : W p l e R s m args below meth c H locs z.2.2.2.1 z.2.2.2.2.1 Q (F0 m (rx_zpc z) ls ((rx_zst z).map (rx_iv r ad xa))) := by
  unfold rx_h_icmp at hz
  split at hz
  · rename_i b t tgt hbb ht
    split at hz
    · rename_i a t2 ha
      split at hz
      · rename_i ho
        cases hz
        rw [Bool.and_eq_true] at ho
        obtain ⟨o1, o2⟩ := rx_okI_ok hR.1 ho.1
        obtain ⟨o3, o4⟩ := rx_okI_ok hR.1 ho.2
        have hst := rx_stsc hR
        have e2 := rx_pi_ok ha
        subst e2
        rw [rx_pi_ok hbb] at hst ⊢
        obtain ⟨k1, k2⟩ := rx_fork_ok hR o2 o4 (fun v hv => hst v (List.mem_cons_of_mem _ (List.mem_cons_of_mem _ hv))) K
        exact rx_lv_icmp hexec hb hdg (rx_off_ok ht) (fun h => k1 (by rw [o1, o3] at h; exact h)) (fun h => k2 (by rw [o1, o3] at h; exact h))
      · cases hz
    · cases hz
  · cases hz
theorem rx_lcmp_holds {cnd : Jvm.ClassFile.Cond} (x y : Int64) : rx_holds cnd (lg_cmp x y).toInt 0 ↔ rx_holds cnd x.toInt y.toInt := by
  have z0 : (0 : Int32).toInt = 0 := Int32.toInt_zero
  have ex : ((lg_cmp x y).toInt = 0) ↔ (x.toInt = y.toInt) := by rw [← z0, Int32.toInt_inj, lg_cmp_eq, Int64.toInt_inj]
  cases cnd
  · exact ex
  · exact not_congr ex
  · show (lg_cmp x y).toInt < 0 ↔ x.toInt < y.toInt
    rw [← z0, ← Int32.lt_iff_toInt_lt, lg_cmp_lt, Int64.lt_iff_toInt_lt]
  · show 0 ≤ (lg_cmp x y).toInt ↔ y.toInt ≤ x.toInt
    rw [← z0, ← Int32.le_iff_toInt_le, lg_cmp_ge, Int64.le_iff_toInt_le]
  · show 0 < (lg_cmp x y).toInt ↔ y.toInt < x.toInt
    rw [← z0, ← Int32.lt_iff_toInt_lt, lg_cmp_gt, Int64.lt_iff_toInt_lt]
  · show (lg_cmp x y).toInt ≤ 0 ↔ x.toInt ≤ y.toInt
    rw [← z0, ← Int32.le_iff_toInt_le, lg_cmp_le, Int64.le_iff_toInt_le]
theorem rx_h_lcmp_ok (hexec : p.tables.exec = Jvm.exec) (hb : c.code = cc) (hdg : decode cc (rx_zpc z) = .ok (.lcmp, 1)) (hR : rx_R D cl A s xa nL H0 z r ad H locs ls) (hz : rx_h_lcmp (decode cc (rx_zpc z + 1)) z = some zs)
    (K : ∀ z' ∈ zs, rx_G p l e R s m args below meth c Q D cl A xa nL H0 z.1.length z.2.2.1.length r ad z') : W p l e R s m args below meth c H locs z.2.2.2.1 z.2.2.2.2.1 Q (F0 m (rx_zpc z) ls ((rx_zst z).map (rx_iv r ad xa))) := by
  unfold rx_h_lcmp at hz
  split at hz
  · rename_i b t hbb
    split at hz
    · rename_i a t2 ha
      split at hz
      · rename_i cnd off hd2
        split at hz
        · rename_i tgt ht
          split at hz
          · rename_i ho
            cases hz
            rw [Bool.and_eq_true] at ho
            obtain ⟨o1, o2⟩ := rx_okL_ok hR.1 ho.1
            obtain ⟨o3, o4⟩ := rx_okL_ok hR.1 ho.2
            have hst := rx_stsc hR
            have e2 := rx_pl_ok ha
            subst e2
            rw [rx_pl_ok hbb] at hst ⊢
            obtain ⟨k1, k2⟩ := rx_fork_ok hR o2 o4 (fun v hv => hst v (List.mem_cons_of_mem _ (List.mem_cons_of_mem _ hv))) K
            refine W.lcmp hexec hb hdg ?_
            refine rx_lv_if hexec hb hd2 (rx_off_ok ht) (fun h => k1 ?_) (fun h => k2 ?_)
            · have h2 := (rx_lcmp_holds _ _).mp h
              rw [o1, o3] at h2
              exact h2
            · intro q
              refine h ((rx_lcmp_holds _ _).mpr ?_)
              rw [o1, o3]
              exact q
          · cases hz
        · cases hz
      · cases hz
    · cases hz
  · cases hz
theorem rx_h_goto_ok {off : Int} (hexec : p.tables.exec = Jvm.exec) (hb : c.code = cc) (hdg : decode cc (rx_zpc z) = .ok (.goto off, 3)) (hR : rx_R D cl A s xa nL H0 z r ad H locs ls) (hz : rx_h_goto off z = some zs)
    (K : ∀ z' ∈ zs, rx_G p l e R s m args below meth c Q D cl A xa nL H0 z.1.length z.2.2.1.length r ad z') : W p l e R s m args below meth c H locs z.2.2.2.1 z.2.2.2.2.1 Q (F0 m (rx_zpc z) ls ((rx_zst z).map (rx_iv r ad xa))) := by
  unfold rx_h_goto at hz
  split at hz
  · rename_i tgt ht
    cases hz
    exact lv_goto hexec hb hdg (rx_off_ok ht) (rx_at (K _ List.mem_cons_self) rx_same.rf rx_sameA.rf (rx_R_jp hR rfl hR.1 hR.2.1 hR.2.2.1 (rx_stsc hR)) rfl rfl rfl rfl)
  · cases hz
end RXB
end
section
/-! A REFLECTED MACHINE, part 6: switches, and what reads and writes cells -/
/-- a field: class, place, kind of its type (0 int, 1 boolean, 2 long, 3 reference), final, by a nest mate -/
abbrev rx_Q : Type := Nat × Nat × Nat × Bool × Bool
def rx_tyc (ty : FieldType) : Nat := match ty with
  | .int => 0
  | .boolean => 1
  | .long => 2
  | .object _ => 3
  | .array _ => 3
  | _ => 9
def rx_in01 (I : rx_I) (e : rx_E) : Bool := match rx_bi I e with
  | some (lo, hi) => decide (0 ≤ lo) && decide (hi ≤ 1)
  | none => false
def rx_fit (I : rx_I) (tc : Nat) (v : rx_V) : Bool := match tc with
  | 0 => (match v with
    | .inr (0, _) => true
    | _ => false)
  | 1 => (match v with
    | .inr (0, e) => rx_in01 I e
    | _ => false)
  | 2 => (match v with
    | .inr (1, _) => true
    | _ => false)
  | 3 => (match v with
    | .inl _ => true
    | _ => false)
  | _ => false
theorem rx_in01_ok {I : rx_I} {e : rx_E} {r : Nat → Int} (h : rx_sat I r) (hf : rx_in01 I e = true) : Int32.ofInt (rx_ev r e) = 0 ∨ Int32.ofInt (rx_ev r e) = 1 := by
  unfold rx_in01 at hf
  split at hf
  · rename_i lo hi he
    obtain ⟨h1, h2, -, -⟩ := rx_bi_ok h he
    rw [Bool.and_eq_true, decide_eq_true_eq, decide_eq_true_eq] at hf
    rcases (show rx_ev r e = 0 ∨ rx_ev r e = 1 by omega) with q | q
    · exact Or.inl (by rw [q]; rfl)
    · exact Or.inr (by rw [q]; rfl)
  · exact absurd hf Bool.false_ne_true
theorem rx_fit_ok {I : rx_I} {tc : Nat} {v : rx_V} {r : Nat → Int} {ad xa : Nat → Nat} {ty : FieldType} (h : rx_sat I r) (hf : rx_fit I tc v = true) (hty : rx_tyc ty = tc) : narrow ty (rx_iv r ad xa v) = rx_iv r ad xa v ∧ fits ty (rx_iv r ad xa v) = true := by
  subst hty
  have no : ∀ {P : Prop}, false = true → P := fun q => absurd q Bool.false_ne_true
  match ty, v, hf with
  | .int, .inr (0, e), _ => exact ⟨rfl, rfl⟩
  | .int, .inl _, hf => exact no hf
  | .int, .inr (_ + 1, _), hf => exact no hf
  | .boolean, .inr (0, e), hf =>
    have h2 : rx_in01 I e = true := hf
    rcases rx_in01_ok h h2 with q | q
    · show narrow .boolean (.int (Int32.ofInt (rx_ev r e))) = .int (Int32.ofInt (rx_ev r e)) ∧ fits .boolean (.int (Int32.ofInt (rx_ev r e))) = true
      rw [q]
      exact ⟨rfl, rfl⟩
    · show narrow .boolean (.int (Int32.ofInt (rx_ev r e))) = .int (Int32.ofInt (rx_ev r e)) ∧ fits .boolean (.int (Int32.ofInt (rx_ev r e))) = true
      rw [q]
      exact ⟨rfl, rfl⟩
  | .boolean, .inl _, hf => exact no hf
  | .boolean, .inr (_ + 1, _), hf => exact no hf
  | .long, .inr (1, e), _ => exact ⟨rfl, rfl⟩
  | .long, .inl _, hf => exact no hf
  | .long, .inr (0, _), hf => exact no hf
  | .long, .inr (_ + 2, _), hf => exact no hf
  | .object _, .inl none, _ => exact ⟨rfl, rfl⟩
  | .object _, .inl (some k), _ => exact ⟨rfl, rfl⟩
  | .object _, .inr _, hf => exact no hf
  | .array _, .inl none, _ => exact ⟨rfl, rfl⟩
  | .array _, .inl (some k), _ => exact ⟨rfl, rfl⟩
  | .array _, .inr _, hf => exact no hf
  | .byte, _, hf => exact no hf
  | .char, _, hf => exact no hf
  | .short, _, hf => exact no hf
  | .float, _, hf => exact no hf
  | .double, _, hf => exact no hf
/-- a field of a method's pool is what the table says -/
def rx_Fok (s : State) (args : Array Value) (Ts : List Jvm.Cond) (own : String) (cl : List vw_C) (idx : Nat) (q : rx_Q) : Prop :=
  ∃ (C : String) (T : u_T) (N : Nat) (ty : Nat → FieldType), cl[q.1]? = some (C, T, N) ∧ q.2.1 < N ∧ (∀ w ∈ u_ws C T N, w ∈ Ts) ∧ (∀ k, k < N → parseFieldDescriptor (T k).2.2.1 = some (ty k)) ∧ (∀ a, a < N → ∀ b, b < N → a ≠ b → (T a).2.1 ≠ (T b).2.1) ∧
    rx_tyc (ty q.2.1) = q.2.2.1 ∧ (T q.2.1).2.2.2 = q.2.2.2.1 ∧ (q.2.2.2.1 = true → q.2.2.2.2 = false → (T q.2.1).1 = own) ∧
    ((q.2.2.2.2 = false ∧ (Jvm.Cond.fieldLink own idx (T q.2.1).1 (T q.2.1).2.1 (T q.2.1).2.2.1).before args s = true) ∨ (q.2.2.2.2 = true ∧ ∃ host : String, (Jvm.Cond.fieldLinkNest own idx (T q.2.1).1 (T q.2.1).2.1 (T q.2.1).2.2.1 host).before args s = true))
def rx_nxh (ht : List rx_C) (z : rx_Z) (d : Nat) (st : List rx_V) : rx_Z := match z with
  | (I0, F1, _, c0, s0, pc0, lv0, _) => (I0, F1, ht, c0, s0, pc0 + d, lv0, st)
def rx_h_get (fr : Nat → Option rx_Q) (idx : Nat) (z : rx_Z) : Option (List rx_Z) := match rx_pr (rx_zst z), fr idx with
  | some (some k, t), some q => match (z.2.2.1)[k]? with
    | some (.inl (ci, fs)) => if ci = q.1 then (match fs[q.2.1]? with
      | some (.inl v) => some [rx_nx z 3 (v :: t)]
      | _ => none) else none
    | _ => none
  | _, _ => none
def rx_h_put (fr : Nat → Option rx_Q) (ini : Bool) (idx : Nat) (z : rx_Z) : Option (List rx_Z) := match rx_pv (rx_zst z), fr idx with
  | some (v, t), some q => match rx_pr t with
    | some (some k, t2) => match (z.2.2.1)[k]? with
      | some (.inl (ci, fs)) => if ci = q.1 ∧ q.2.1 < fs.length ∧ rx_fit z.1 q.2.2.1 v = true ∧ (q.2.2.2.1 = false ∨ (ini = true ∧ q.2.2.2.2 = false)) then some [rx_nxh ((z.2.2.1).set k (.inl (ci, fs.set q.2.1 (.inl v)))) z 3 t2] else none
      | _ => none
    | _ => none
  | _, _ => none
/-- an entry comes on top, if it is known -/
def rx_pushX (z : rx_Z) (x : rx_X) (t : List rx_V) : Option (List rx_Z) := match x with
  | .inl v => some [rx_nx z 1 (v :: t)]
  | .inr _ => none
/-- one entry each, for the places lo, lo + 1 .. -/
def rx_each (z : rx_Z) (ix : rx_E) (df : rx_X) (ov : List (Nat × rx_V)) (t : List rx_V) : Nat → Int → Option (List rx_Z)
  | 0, _ => some []
  | c + 1, lo => match rx_gt ov df lo.toNat, rx_each z ix df ov t c (lo + 1) with
    | .inl v, some l => some (rx_way z (2, ix, (0, lo)) (rx_zpc z + 1) (v :: t) ++ l)
    | _, _ => none
def rx_h_ald (okc : Nat → Bool) (z : rx_Z) : Option (List rx_Z) := match rx_pi (rx_zst z) with
  | some (ix, t) => match rx_pr t with
    | some (some k, t2) => match (z.2.2.1)[k]? with
      | some (.inr (tc, n, df, ov)) => if okc tc then (match rx_bi z.1 ix with
        | some (lo, hi) => if 0 ≤ lo ∧ hi < (n : Int) then
            (if lo = hi then rx_pushX z (rx_gt ov df lo.toNat) t2
             else if ov.all (fun q => decide ((q.1 : Int) < lo) || decide (hi < (q.1 : Int))) then rx_pushX z df t2
             else rx_each z (rx_nm z.1 ix) df ov t2 (hi - lo + 1).toNat lo)
          else none
        | none => none) else none
      | _ => none
    | _ => none
  | none => none
def rx_ovset (ov : List (Nat × rx_V)) (df : rx_X) (j : Nat) (v : rx_V) : List (Nat × rx_V) :=
  if (Sum.inl v : rx_X) = df then ov.filter (fun q => !(q.1 == j)) else (j, v) :: ov.filter (fun q => !(q.1 == j))
/-- a store at a known place -/
def rx_h_ast (okc : Nat → Bool) (okv : rx_I → List rx_C → Nat → rx_V → Bool) (z : rx_Z) : Option (List rx_Z) := match rx_pv (rx_zst z) with
  | some (v, t0) => match rx_pi t0 with
    | some (ix, t) => match rx_pr t with
      | some (some k, t2) => match (z.2.2.1)[k]? with
        | some (.inr (tc, n, df, ov)) => if okc tc && okv z.1 z.2.2.1 tc v then (match rx_bi z.1 ix with
          | some (lo, hi) => if 0 ≤ lo ∧ hi < (n : Int) ∧ lo = hi then some [rx_nxh ((z.2.2.1).set k (.inr (tc, n, df, rx_ovset ov df lo.toNat v))) z 1 t2] else none
          | none => none) else none
        | _ => none
      | _ => none
    | none => none
  | none => none
def rx_h_alen (z : rx_Z) : Option (List rx_Z) := match rx_pv (rx_zst z) with
  | some (.inl (some k), t) => match (z.2.2.1)[k]? with
    | some (.inr (_, n, _, _)) => some [rx_nx z 1 (rx_n (n : Int) :: t)]
    | _ => none
  | some (.inr (2, (_, 0)), t) => some [rx_nx z 1 (.inr (0, (1, 0)) :: t)]
  | _ => none
section RXH
variable {p : Program} {l : Launch} {e : Env} {R : Room} {s : State} {m : MethodId} {args : Array Value} {below : List Frame} {meth : Method} {c : Code} {Q : State → Prop}
variable {D : va_G} {cl : List vw_C} {A : Nat → Prop} {xa : Nat → Nat} {nL : Nat} {H0 H : Heap} {locs : List Loc} {ls : Array Slot} {r : Nat → Int} {ad : Nat → Nat}
variable {cc : ByteArray} {z : rx_Z} {zs : List rx_Z}
theorem rx_W_set {N : Nat} {ht : List rx_C} {ws : va_W} {tys : List (ClassId × FieldType)} {k : Nat} {x' : rx_C} {e' : va_E} {H1 : Heap} {locs1 : List Loc} (hK : va_K D cl tys s) (hl : ws.length = ht.length) (hc : ∀ (k : Nat) (x : rx_C), ht[k]? = some x → rx_csc N ht.length x ∧ ∃ e : va_E, ws[k]? = some (ad k, e) ∧ rx_cell cl tys r ad xa x e)
    (hx' : rx_csc N ht.length x') (he' : rx_cell cl tys r ad xa x' e') (hP1 : va_P D cl (ws.set k (ad k, e')) H1) (hD1 : va_D A (ws.set k (ad k, e'))) (hS1 : va_S A H0 H1 locs1) : rx_W D cl A s xa N (ht.set k x') r ad H0 H1 locs1 := by
  refine ⟨ws.set k (ad k, e'), tys, hK, hP1, hD1, hS1, by rw [List.length_set, List.length_set]; exact hl, fun j x hj => ?_⟩
  rw [List.length_set]
  by_cases hjk : j = k
  · subst hjk
    have hlt : j < ht.length := by
      have := (List.getElem?_eq_some_iff.mp hj).1
      rwa [List.length_set] at this
    rw [List.getElem?_set_self hlt] at hj
    cases hj
    exact ⟨hx', e', by rw [List.getElem?_set_self (by rw [hl]; exact hlt)], he'⟩
  · rw [List.getElem?_set_ne (Ne.symm hjk)] at hj
    obtain ⟨h1, e2, h2, h3⟩ := hc j x hj
    exact ⟨h1, e2, by rw [List.getElem?_set_ne (Ne.symm hjk)]; exact h2, h3⟩
theorem rx_R_nxh {ht' : List rx_C} {H1 : Heap} {locs1 : List Loc} {d : Nat} {st : List rx_V} (hR : rx_R D cl A s xa nL H0 z r ad H locs ls) (hlen : ht'.length = (z.2.2.1).length) (hW : rx_W D cl A s xa z.1.length ht' r ad H0 H1 locs1) (hs : ∀ v ∈ st, rx_sc z.1.length (z.2.2.1).length v) : rx_R D cl A s xa nL H0 (rx_nxh ht' z d st) r ad H1 locs1 ls := by
  obtain ⟨h1, h2, h3, -, h5, h6, -⟩ := hR
  refine ⟨h1, h2, h3, hW, h5, ?_, ?_⟩
  · show ∀ q ∈ rx_zlv z, rx_sc z.1.length ht'.length q.2
    rw [hlen]; exact h6
  · show ∀ v ∈ st, rx_sc z.1.length ht'.length v
    rw [hlen]; exact hs
theorem rx_h_get_ok {fr : Nat → Option rx_Q} {idx : Nat} {Ts : List Jvm.Cond} {own : String} (hexec : p.tables.exec = Jvm.exec) (hb : c.code = cc) (hts : ∀ w ∈ Ts, w.before args s = true) (hown : s.vm.findClass own = some m.cls) (hF : ∀ q, fr idx = some q → rx_Fok s args Ts own cl idx q) (hdg : decode cc (rx_zpc z) = .ok (.getfield idx, 3))
    (hR : rx_R D cl A s xa nL H0 z r ad H locs ls) (hz : rx_h_get fr idx z = some zs)
    (K : ∀ z' ∈ zs, rx_G p l e R s m args below meth c Q D cl A xa nL H0 z.1.length z.2.2.1.length r ad z') : W p l e R s m args below meth c H locs z.2.2.2.1 z.2.2.2.2.1 Q (F0 m (rx_zpc z) ls ((rx_zst z).map (rx_iv r ad xa))) := by
  unfold rx_h_get at hz
  split at hz
  · rename_i k t q hst hq
    split at hz
    · rename_i ci fs hht
      split at hz
      · rename_i hci
        split at hz
        · rename_i v hfs
          cases hz
          subst hci
          obtain ⟨ws, tys, hK, hP, hD, hS, hl, hc⟩ := id hR.2.2.2.1
          obtain ⟨hcs, e0, hw, hcell⟩ := hc k _ hht
          obtain ⟨vs, he0, hlen, hvs⟩ := hcell
          subst he0
          obtain ⟨w, hw2, hok⟩ := hvs _ _ hfs
          have hok2 : w = rx_iv r ad xa v := hok
          subst hok2
          have hsc : rx_sc z.1.length z.2.2.1.length v := hcs _ _ hfs
          have hsts := rx_stsc hR
          rw [rx_pr_ok hst] at hsts ⊢
          have kk := rx_at (K _ List.mem_cons_self) rx_same.rf rx_sameA.rf (rx_R_nx hR fun x hx => by
            rcases List.mem_cons.mp hx with h | h
            · subst h; exact hsc
            · exact hsts x (List.mem_cons_of_mem _ h)) (pc := rx_zpc z + 3) (vs := rx_iv r ad xa v :: t.map (rx_iv r ad xa)) rfl rfl rfl rfl
          obtain ⟨C, T, N, ty, f1, f2, f3, f4, f5, f6, f7, f8, f9⟩ := hF q hq
          rcases f9 with ⟨-, f9⟩ | ⟨-, host, f9⟩
          · exact va_get hexec hb hts f3 hown hK hP k hw f1 q.2.1 f2 f9 (fun _ h => h) hw2 hdg kk
          · exact va_getN hexec hb hts f3 hown hK hP k hw f1 q.2.1 f2 f9 (fun _ h => h) hw2 hdg kk
        · cases hz
      · cases hz
    · cases hz
  · cases hz
theorem rx_h_put_ok {fr : Nat → Option rx_Q} {ini : Bool} {idx : Nat} {Ts : List Jvm.Cond} {own : String} (hexec : p.tables.exec = Jvm.exec) (hb : c.code = cc) (hts : ∀ w ∈ Ts, w.before args s = true) (hown : s.vm.findClass own = some m.cls) (hini : ini = true → meth.name = "<init>") (hF : ∀ q, fr idx = some q → rx_Fok s args Ts own cl idx q) (hdg : decode cc (rx_zpc z) = .ok (.putfield idx, 3))
    (hR : rx_R D cl A s xa nL H0 z r ad H locs ls) (hz : rx_h_put fr ini idx z = some zs)
    (K : ∀ z' ∈ zs, rx_G p l e R s m args below meth c Q D cl A xa nL H0 z.1.length z.2.2.1.length r ad z') : W p l e R s m args below meth c H locs z.2.2.2.1 z.2.2.2.2.1 Q (F0 m (rx_zpc z) ls ((rx_zst z).map (rx_iv r ad xa))) := by
  unfold rx_h_put at hz
  split at hz
  · rename_i v t q hst hq
    split at hz
    · rename_i k t2 hst2
      split at hz
      · rename_i ci fs hht
        split at hz
        · rename_i hcond
          obtain ⟨hci, hlt, hfit, hfin⟩ := hcond
          cases hz
          subst hci
          obtain ⟨ws, tys, hK, hP, hD, hS, hl, hc⟩ := id hR.2.2.2.1
          obtain ⟨hcs, e0, hw, hcell⟩ := hc k _ hht
          obtain ⟨vs, he0, hlen, hvs⟩ := hcell
          subst he0
          have hsts := rx_stsc hR
          have e2 := rx_pr_ok hst2
          subst e2
          rw [rx_pv_ok hst] at hsts ⊢
          obtain ⟨C, T, N, ty, f1, f2, f3, f4, f5, f6, f7, f8, f9⟩ := hF q hq
          obtain ⟨n1, n2⟩ := rx_fit_ok (ad := ad) (xa := xa) hR.1 hfit f6
          have hsv : rx_sc z.1.length z.2.2.1.length v := hsts _ List.mem_cons_self
          have kk : ∀ (H1 : Heap) (locs1 : List Loc), va_P D cl (ws.set k (ad k, .inr (q.1, vs.set q.2.1 (rx_iv r ad xa v)))) H1 → va_D A (ws.set k (ad k, .inr (q.1, vs.set q.2.1 (rx_iv r ad xa v)))) → va_S A H0 H1 locs1 → W p l e R s m args below meth c H1 locs1 z.2.2.2.1 z.2.2.2.2.1 Q (F0 m (rx_zpc z + 3) ls (t2.map (rx_iv r ad xa))) := by
            intro H1 locs1 hP1 hD1 hS1
            refine rx_at (K _ List.mem_cons_self) rx_same.rf rx_sameA.rf (rx_R_nxh hR (by rw [List.length_set]) (rx_W_set hK hl hc ?_ ?_ hP1 hD1 hS1) fun x hx => hsts x (List.mem_cons_of_mem _ (List.mem_cons_of_mem _ hx))) rfl rfl rfl rfl
            · intro j f hj
              by_cases hjk : j = q.2.1
              · subst hjk
                rw [List.getElem?_set_self hlt] at hj
                cases hj
                exact hsv
              · rw [List.getElem?_set_ne (Ne.symm hjk)] at hj
                exact hcs j f hj
            · refine ⟨_, rfl, by rw [List.length_set, List.length_set]; exact hlen, fun j f hj => ?_⟩
              by_cases hjk : j = q.2.1
              · subst hjk
                rw [List.getElem?_set_self hlt] at hj
                cases hj
                exact ⟨_, by rw [List.getElem?_set_self (by rw [hlen]; exact hlt)], rfl⟩
              · rw [List.getElem?_set_ne (Ne.symm hjk)] at hj
                obtain ⟨w, g1, g2⟩ := hvs j f hj
                exact ⟨w, by rw [List.getElem?_set_ne (Ne.symm hjk)]; exact g1, g2⟩
          rcases hfin with hfin | ⟨hi, hnest⟩
          · rcases f9 with ⟨-, f9⟩ | ⟨-, host, f9⟩
            · exact va_put hexec hb hts f3 ty f4 f5 hown hK hP hD hS k hw f1 q.2.1 f2 f9 (fun _ h => h) (by rw [f7]; exact hfin) (f4 _ f2) n1 n2 (by rw [hlen]; exact hlt) hdg kk
            · exact va_putN hexec hb hts f3 ty f4 f5 hown hK hP hD hS k hw f1 q.2.1 f2 f9 (fun _ h => h) (by rw [f7]; exact hfin) (f4 _ f2) n1 n2 (by rw [hlen]; exact hlt) hdg kk
          · rcases f9 with ⟨-, f9⟩ | ⟨f9, -⟩
            · cases hfb : q.2.2.2.1 with
              | false => exact va_put hexec hb hts f3 ty f4 f5 hown hK hP hD hS k hw f1 q.2.1 f2 f9 (fun _ h => h) (by rw [f7]; exact hfb) (f4 _ f2) n1 n2 (by rw [hlen]; exact hlt) hdg kk
              | true => exact va_putF hexec hb hts f3 ty f4 f5 hown hK hP hD hS k hw f1 q.2.1 f2 f9 (fun _ h => h) (by rw [f7]; exact hfb) (hini hi) (f8 hfb hnest) (f4 _ f2) n1 n2 (by rw [hlen]; exact hlt) hdg kk
            · rw [hnest] at f9
              exact absurd f9 Bool.false_ne_true
        · cases hz
      · cases hz
    · cases hz
  · cases hz
end RXH
end
section
/-! A REFLECTED MACHINE, part 7: rows -/
def rx_isTc (k : Nat) (tc : Nat) : Bool := tc == k
def rx_isRef (tc : Nat) : Bool := decide (5 ≤ tc)
section RXA
variable {p : Program} {l : Launch} {e : Env} {R : Room} {s : State} {m : MethodId} {args : Array Value} {below : List Frame} {meth : Method} {c : Code} {Q : State → Prop}
variable {D : va_G} {cl : List vw_C} {A : Nat → Prop} {xa : Nat → Nat} {nL : Nat} {H0 H : Heap} {locs : List Loc} {ls : Array Slot} {r : Nat → Int} {ad : Nat → Nat}
variable {cc : ByteArray} {z : rx_Z} {zs : List rx_Z}
/-- a row is in the table: an entry's bounds -/
theorem rx_ixIn {ix : rx_E} {I : rx_I} {lo hi : Int} {n : Nat} (h : rx_sat I r) (hb : rx_bi I ix = some (lo, hi)) (h0 : 0 ≤ lo) (hn : hi < (n : Int)) : vp_in (Int32.ofInt (rx_ev r ix)) n ∧ (Int32.ofInt (rx_ev r ix)).toNatClampNeg = (rx_ev r ix).toNat ∧ lo ≤ rx_ev r ix ∧ rx_ev r ix ≤ hi ∧ ix.1 < I.length := by
  obtain ⟨h1, h2, h3, h4⟩ := rx_bi_ok h hb
  refine ⟨vp_in_iff.mpr (by rw [h3]; omega), ?_, h1, h2, h4⟩
  show (Int32.ofInt (rx_ev r ix)).toInt.toNat = _
  rw [h3]
theorem rx_pushX_ok {x : rx_X} {t : List rx_V} {w : Value} (hR : rx_R D cl A s xa nL H0 z r ad H locs ls) (hz : rx_pushX z x t = some zs) (hsc : rx_xsc z.1.length z.2.2.1.length x) (hx : rx_ok r ad xa x w) (ht : ∀ v ∈ t, rx_sc z.1.length z.2.2.1.length v)
    (K : ∀ z' ∈ zs, rx_G p l e R s m args below meth c Q D cl A xa nL H0 z.1.length z.2.2.1.length r ad z') : W p l e R s m args below meth c H locs z.2.2.2.1 z.2.2.2.2.1 Q (F0 m (rx_zpc z + 1) ls (w :: t.map (rx_iv r ad xa))) := by
  unfold rx_pushX at hz
  split at hz
  · rename_i v
    cases hz
    have hw : w = rx_iv r ad xa v := hx
    subst hw
    refine rx_at (K _ List.mem_cons_self) rx_same.rf rx_sameA.rf (rx_R_nx hR fun y hy => ?_) rfl rfl rfl rfl
    rcases List.mem_cons.mp hy with h | h
    · subst h; exact hsc
    · exact ht y h
  · cases hz
theorem rx_each_ok {ix : rx_E} {df : rx_X} {ov : List (Nat × rx_V)} {t : List rx_V} (hR : rx_R D cl A s xa nL H0 z r ad H locs ls) (hix : ix.1 < z.1.length) (ht : ∀ v ∈ t, rx_sc z.1.length z.2.2.1.length v) : ∀ (k : Nat) (lo : Int) (zs : List rx_Z), rx_each z ix df ov t k lo = some zs → lo ≤ rx_ev r ix → rx_ev r ix < lo + k → (∀ j : Nat, (j : Int) = rx_ev r ix → rx_xsc z.1.length z.2.2.1.length (rx_gt ov df j)) → 0 ≤ lo →
    ∀ w : Value, rx_ok r ad xa (rx_gt ov df (rx_ev r ix).toNat) w → (∀ z' ∈ zs, rx_G p l e R s m args below meth c Q D cl A xa nL H0 z.1.length z.2.2.1.length r ad z') → W p l e R s m args below meth c H locs z.2.2.2.1 z.2.2.2.2.1 Q (F0 m (rx_zpc z + 1) ls (w :: t.map (rx_iv r ad xa))) := by
  intro k
  induction k with
  | zero =>
    intro lo zs _ h1 h2
    exact absurd h2 (by omega)
  | succ k ih =>
    intro lo zs hz h1 h2 hsc h0 w hw K
    rw [rx_each] at hz
    split at hz
    · rename_i v l hv hl
      cases hz
      by_cases hq : rx_ev r ix = lo
      · have e1 : (rx_ev r ix).toNat = lo.toNat := by rw [hq]
        rw [e1, hv] at hw
        have hw2 : w = rx_iv r ad xa v := hw
        subst hw2
        have hs2 := hsc lo.toNat (by omega)
        rw [hv] at hs2
        refine rx_way_ok (st := v :: t) hR (f := (2, ix, (0, lo))) ?_ (Nat.le_of_ble_eq_true rfl) hix (rx_pos hR.1) (fun y hy => ?_) fun z' hz' => K z' (List.mem_append_left _ hz')
        · show rx_ev r ix = rx_ev r (0, lo)
          rw [rx_ev0 hR.1]
          exact hq
        · rcases List.mem_cons.mp hy with h | h
          · subst h; exact hs2
          · exact ht y h
      · exact ih (lo + 1) l hl (by omega) (by omega) hsc (by omega) w hw fun z' hz' => K z' (List.mem_append_right _ hz')
    · cases hz
theorem rx_gt_out {ov : List (Nat × rx_V)} {df : rx_X} {lo hi : Int} {j : Nat} (h : ov.all (fun q => decide ((q.1 : Int) < lo) || decide (hi < (q.1 : Int))) = true) (h1 : lo ≤ (j : Int)) (h2 : (j : Int) ≤ hi) : rx_gt ov df j = df := by
  unfold rx_gt
  split
  · rename_i v hv
    have := List.all_eq_true.mp h _ (rx_lk_mem hv)
    rw [Bool.or_eq_true, decide_eq_true_eq, decide_eq_true_eq] at this
    dsimp only at this
    omega
  · rfl
theorem rx_h_ald_ok {okc : Nat → Bool} (hR : rx_R D cl A s xa nL H0 z r ad H locs ls) (hz : rx_h_ald okc z = some zs)
    (row : ∀ (ws : va_W) (tys : List (ClassId × FieldType)) (k n tc t0 : Nat) (cA : ClassId) (x : rx_cont) (i : Int32) (rest : List Value), okc tc = true → va_K D cl tys s → va_P D cl ws H → ws[k]? = some (ad k, .inl (cA, n, x)) → tys[t0]? = some (cA, rx_ty cl tc) → rx_sh tc x → vp_in i n →
      W p l e R s m args below meth c H locs z.2.2.2.1 z.2.2.2.2.1 Q (F0 m (rx_zpc z + 1) ls (rx_el x i.toNatClampNeg :: rest)) → W p l e R s m args below meth c H locs z.2.2.2.1 z.2.2.2.2.1 Q (F0 m (rx_zpc z) ls (.int i :: .ref (ad k) :: rest)))
    (K : ∀ z' ∈ zs, rx_G p l e R s m args below meth c Q D cl A xa nL H0 z.1.length z.2.2.1.length r ad z') : W p l e R s m args below meth c H locs z.2.2.2.1 z.2.2.2.2.1 Q (F0 m (rx_zpc z) ls ((rx_zst z).map (rx_iv r ad xa))) := by
  unfold rx_h_ald at hz
  split at hz
  · rename_i ix t hix
    split at hz
    · rename_i k t2 hk
      split at hz
      · rename_i tc n df ov hht
        split at hz
        · rename_i hokc
          split at hz
          · rename_i lo hi hbi
            split at hz
            · rename_i hrange
              obtain ⟨ws, tys, hK, hP, hD, hS, hl, hc⟩ := id hR.2.2.2.1
              obtain ⟨hcs, e0, hw, hcell⟩ := hc k _ hht
              obtain ⟨cA, t0, x, he0, htys, hsh, hel⟩ := hcell
              subst he0
              obtain ⟨i1, i2, i3, i4, i5⟩ := rx_ixIn hR.1 hbi hrange.1 hrange.2
              have hsts := rx_stsc hR
              have e2 := rx_pr_ok hk
              subst e2
              rw [rx_pi_ok hix] at hsts ⊢
              refine row ws tys k n tc t0 cA x _ _ hokc hK hP hw htys hsh i1 ?_
              rw [i2]
              have hin : (rx_ev r ix).toNat < n := by omega
              have hval := hel _ hin
              have hscv := hcs _ hin
              have ht2 : ∀ v ∈ t2, rx_sc z.1.length z.2.2.1.length v := fun v hv => hsts v (List.mem_cons_of_mem _ (List.mem_cons_of_mem _ hv))
              split at hz
              · rename_i heq
                have e3 : lo.toNat = (rx_ev r ix).toNat := by omega
                rw [e3] at hz
                exact rx_pushX_ok hR hz hscv hval ht2 K
              · split at hz
                · rename_i hall
                  have e4 : rx_gt ov df (rx_ev r ix).toNat = df := rx_gt_out hall (by omega) (by omega)
                  rw [e4] at hval hscv
                  exact rx_pushX_ok hR hz hscv hval ht2 K
                · obtain ⟨m1, m2⟩ := rx_nm_ok (e := ix) hR.1
                  refine rx_each_ok hR (m2 i5) ht2 _ lo zs hz (by rw [m1]; exact i3) (by rw [m1]; omega) (fun j hj => ?_) hrange.1 _ ?_ K
                  · have : j = (rx_ev r ix).toNat := by rw [m1] at hj; omega
                    rw [this]
                    exact hscv
                  · rw [m1]
                    exact hval
            · cases hz
          · cases hz
        · cases hz
      · cases hz
    · cases hz
  · cases hz
theorem rx_ovset_gt {ov : List (Nat × rx_V)} {df : rx_X} {j i : Nat} {v : rx_V} : rx_gt (rx_ovset ov df j v) df i = if i = j then .inl v else rx_gt ov df i := by
  have hf : ∀ (ov : List (Nat × rx_V)), rx_lk (ov.filter (fun q => !(q.1 == j))) i = if i = j then none else rx_lk ov i := by
    intro ov
    induction ov with
    | nil => by_cases h : i = j <;> simp [rx_lk, h]
    | cons q ov ih =>
      by_cases hq : q.1 = j
      · rw [List.filter_cons_of_neg (by simp [hq]), ih]
        by_cases h : i = j
        · rw [if_pos h, if_pos h]
        · rw [if_neg h, if_neg h, rx_lk, if_neg (fun z => h (by rw [← z, hq]))]
      · rw [List.filter_cons_of_pos (by simp [hq]), rx_lk, ih]
        by_cases h : i = j
        · rw [if_pos h, if_pos h, if_neg (fun z => hq (by rw [z, h]))]
        · rw [if_neg h, if_neg h, rx_lk]
  unfold rx_ovset
  by_cases hd : (Sum.inl v : rx_X) = df
  · rw [if_pos hd]
    unfold rx_gt
    rw [hf]
    by_cases h : i = j
    · rw [if_pos h, if_pos h]
      exact hd.symm
    · rw [if_neg h, if_neg h]
  · rw [if_neg hd]
    unfold rx_gt
    rw [rx_lk, hf]
    dsimp only
    by_cases h : i = j
    · rw [if_pos h.symm, if_pos h]
    · rw [if_neg (fun z => h z.symm), if_neg h, if_neg h]
theorem rx_h_ast_ok {okc : Nat → Bool} {okv : rx_I → List rx_C → Nat → rx_V → Bool} (hR : rx_R D cl A s xa nL H0 z r ad H locs ls) (hz : rx_h_ast okc okv z = some zs)
    (row : ∀ (ws : va_W) (tys : List (ClassId × FieldType)) (k n tc t0 : Nat) (cA : ClassId) (x : rx_cont) (i : Int32) (v : rx_V) (rest : List Value), okc tc = true → okv z.1 z.2.2.1 tc v = true → va_K D cl tys s → va_P D cl ws H → va_D A ws → va_S A H0 H locs → (∀ (k : Nat) (x : rx_C), z.2.2.1[k]? = some x → ∃ e : va_E, ws[k]? = some (ad k, e) ∧ rx_cell cl tys r ad xa x e) → ws[k]? = some (ad k, .inl (cA, n, x)) → tys[t0]? = some (cA, rx_ty cl tc) → rx_sh tc x → vp_in i n →
      (∀ (x' : rx_cont) (H1 : Heap) (locs1 : List Loc), rx_sh tc x' → (∀ j : Nat, rx_el x' j = if j = i.toNatClampNeg then rx_iv r ad xa v else rx_el x j) → va_P D cl (ws.set k (ad k, .inl (cA, n, x'))) H1 → va_D A (ws.set k (ad k, .inl (cA, n, x'))) → va_S A H0 H1 locs1 → W p l e R s m args below meth c H1 locs1 z.2.2.2.1 z.2.2.2.2.1 Q (F0 m (rx_zpc z + 1) ls rest)) →
      W p l e R s m args below meth c H locs z.2.2.2.1 z.2.2.2.2.1 Q (F0 m (rx_zpc z) ls (rx_iv r ad xa v :: .int i :: .ref (ad k) :: rest)))
    (K : ∀ z' ∈ zs, rx_G p l e R s m args below meth c Q D cl A xa nL H0 z.1.length z.2.2.1.length r ad z') : W p l e R s m args below meth c H locs z.2.2.2.1 z.2.2.2.2.1 Q (F0 m (rx_zpc z) ls ((rx_zst z).map (rx_iv r ad xa))) := by
  unfold rx_h_ast at hz
  split at hz
  · rename_i v tt hv
    split at hz
    · rename_i ix t hix
      split at hz
      · rename_i k t2 hk
        split at hz
        · rename_i tc n df ov hht
          split at hz
          · rename_i hok
            rw [Bool.and_eq_true] at hok
            split at hz
            · rename_i lo hi hbi
              split at hz
              · rename_i hrange
                cases hz
                obtain ⟨ws, tys, hK, hP, hD, hS, hl, hc⟩ := id hR.2.2.2.1
                obtain ⟨hcs, e0, hw, hcell⟩ := hc k _ hht
                obtain ⟨cA, t0, x, he0, htys, hsh, hel⟩ := hcell
                subst he0
                obtain ⟨i1, i2, i3, i4, i5⟩ := rx_ixIn hR.1 hbi hrange.1 hrange.2.1
                have hsts := rx_stsc hR
                have e2 := rx_pr_ok hk
                subst e2
                have e3 := rx_pi_ok hix
                subst e3
                rw [rx_pv_ok hv] at hsts ⊢
                have hj : lo.toNat = (rx_ev r ix).toNat := by omega
                refine row ws tys k n tc t0 cA x _ v _ hok.1 hok.2 hK hP hD hS (fun k x hx => (hc k x hx).2) hw htys hsh i1 fun x' H1 locs1 hsh' hel' hP1 hD1 hS1 => ?_
                refine rx_at (K _ List.mem_cons_self) rx_same.rf rx_sameA.rf (rx_R_nxh hR (by rw [List.length_set]) (rx_W_set hK hl hc ?_ ?_ hP1 hD1 hS1) fun y hy => hsts y (List.mem_cons_of_mem _ (List.mem_cons_of_mem _ (List.mem_cons_of_mem _ hy)))) rfl rfl rfl rfl
                · intro j hjn
                  rw [rx_ovset_gt]
                  split
                  · exact hsts _ List.mem_cons_self
                  · exact hcs j hjn
                · refine ⟨cA, t0, x', rfl, htys, hsh', fun j hjn => ?_⟩
                  rw [rx_ovset_gt, hel' j, i2, hj]
                  split
                  · exact rfl
                  · exact hel j hjn
              · cases hz
            · cases hz
          · cases hz
        · cases hz
      · cases hz
    · cases hz
  · cases hz
end RXA
end
section
/-! A REFLECTED MACHINE, part 8: what rows do by their kinds, and new cells -/
section RXM
variable {p : Program} {l : Launch} {e : Env} {R : Room} {s : State} {m : MethodId} {args : Array Value} {below : List Frame} {meth : Method} {c : Code} {Q : State → Prop}
variable {D : va_G} {cl : List vw_C} {A : Nat → Prop} {xa : Nat → Nat} {nL : Nat} {H0 H : Heap} {locs : List Loc} {ls : Array Slot} {r : Nat → Int} {ad : Nat → Nat}
variable {cc : ByteArray} {z : rx_Z} {zs : List rx_Z}
theorem rx_isTc_ok {k tc : Nat} (h : rx_isTc k tc = true) : tc = k := by
  unfold rx_isTc at h
  exact beq_iff_eq.mp h
theorem rx_isRef_ok {tc : Nat} (h : rx_isRef tc = true) : ∃ n, tc = n + 5 := by
  unfold rx_isRef at h
  rw [decide_eq_true_eq] at h
  exact ⟨tc - 5, by omega⟩
theorem rx_iald (hexec : p.tables.exec = Jvm.exec) (hb : c.code = cc) (hdg : decode cc (rx_zpc z) = .ok (.iaload, 1)) (hR : rx_R D cl A s xa nL H0 z r ad H locs ls) (hz : rx_h_ald (rx_isTc 0) z = some zs)
    (K : ∀ z' ∈ zs, rx_G p l e R s m args below meth c Q D cl A xa nL H0 z.1.length z.2.2.1.length r ad z') : W p l e R s m args below meth c H locs z.2.2.2.1 z.2.2.2.2.1 Q (F0 m (rx_zpc z) ls ((rx_zst z).map (rx_iv r ad xa))) := by
  refine rx_h_ald_ok hR hz (fun ws tys k n tc t0 cA x i rest hok hK hP hw ht hsh hin kk => ?_) K
  have h0 := rx_isTc_ok hok
  subst h0
  obtain ⟨f, hf⟩ := hsh
  subst hf
  exact va_iald hexec hb hK hP k t0 hw ht hin hdg kk
theorem rx_zald (hexec : p.tables.exec = Jvm.exec) (hb : c.code = cc) (hdg : decode cc (rx_zpc z) = .ok (.baload, 1)) (hR : rx_R D cl A s xa nL H0 z r ad H locs ls) (hz : rx_h_ald (rx_isTc 1) z = some zs)
    (K : ∀ z' ∈ zs, rx_G p l e R s m args below meth c Q D cl A xa nL H0 z.1.length z.2.2.1.length r ad z') : W p l e R s m args below meth c H locs z.2.2.2.1 z.2.2.2.2.1 Q (F0 m (rx_zpc z) ls ((rx_zst z).map (rx_iv r ad xa))) := by
  refine rx_h_ald_ok hR hz (fun ws tys k n tc t0 cA x i rest hok hK hP hw ht hsh hin kk => ?_) K
  have h0 := rx_isTc_ok hok
  subst h0
  obtain ⟨f, hf⟩ := hsh
  subst hf
  exact va_zald hexec hb hK hP k t0 hw ht hin hdg kk
theorem rx_lald (hexec : p.tables.exec = Jvm.exec) (hb : c.code = cc) (hdg : decode cc (rx_zpc z) = .ok (.laload, 1)) (hR : rx_R D cl A s xa nL H0 z r ad H locs ls) (hz : rx_h_ald (rx_isTc 2) z = some zs)
    (K : ∀ z' ∈ zs, rx_G p l e R s m args below meth c Q D cl A xa nL H0 z.1.length z.2.2.1.length r ad z') : W p l e R s m args below meth c H locs z.2.2.2.1 z.2.2.2.2.1 Q (F0 m (rx_zpc z) ls ((rx_zst z).map (rx_iv r ad xa))) := by
  refine rx_h_ald_ok hR hz (fun ws tys k n tc t0 cA x i rest hok hK hP hw ht hsh hin kk => ?_) K
  have h0 := rx_isTc_ok hok
  subst h0
  obtain ⟨f, hf⟩ := hsh
  subst hf
  exact va_lald hexec hb hK hP k t0 hw ht hin hdg kk
theorem rx_aald (hexec : p.tables.exec = Jvm.exec) (hb : c.code = cc) (hdg : decode cc (rx_zpc z) = .ok (.aaload, 1)) (hR : rx_R D cl A s xa nL H0 z r ad H locs ls) (hz : rx_h_ald rx_isRef z = some zs)
    (K : ∀ z' ∈ zs, rx_G p l e R s m args below meth c Q D cl A xa nL H0 z.1.length z.2.2.1.length r ad z') : W p l e R s m args below meth c H locs z.2.2.2.1 z.2.2.2.2.1 Q (F0 m (rx_zpc z) ls ((rx_zst z).map (rx_iv r ad xa))) := by
  refine rx_h_ald_ok hR hz (fun ws tys k n tc t0 cA x i rest hok hK hP hw ht hsh hin kk => ?_) K
  obtain ⟨q, h0⟩ := rx_isRef_ok hok
  subst h0
  obtain ⟨f, hf⟩ := hsh
  subst hf
  exact va_aldq hexec hb hK hP k t0 hw ht hin hdg kk
theorem rx_fit_int {I : rx_I} {v : rx_V} (h : rx_fit I 0 v = true) : ∃ q : rx_E, v = .inr (0, q) := by
  match v, h with
  | .inr (0, q), _ => exact ⟨q, rfl⟩
  | .inl _, h => exact absurd (show false = true from h) Bool.false_ne_true
  | .inr (_ + 1, _), h => exact absurd (show false = true from h) Bool.false_ne_true
theorem rx_fit_bool {I : rx_I} {v : rx_V} (h : rx_fit I 1 v = true) : ∃ q : rx_E, v = .inr (0, q) ∧ rx_in01 I q = true := by
  match v, h with
  | .inr (0, q), h => exact ⟨q, rfl, h⟩
  | .inl _, h => exact absurd (show false = true from h) Bool.false_ne_true
  | .inr (_ + 1, _), h => exact absurd (show false = true from h) Bool.false_ne_true
theorem rx_fit_long {I : rx_I} {v : rx_V} (h : rx_fit I 2 v = true) : ∃ q : rx_E, v = .inr (1, q) := by
  match v, h with
  | .inr (1, q), _ => exact ⟨q, rfl⟩
  | .inl _, h => exact absurd (show false = true from h) Bool.false_ne_true
  | .inr (0, _), h => exact absurd (show false = true from h) Bool.false_ne_true
  | .inr (_ + 2, _), h => exact absurd (show false = true from h) Bool.false_ne_true
theorem rx_iast (hexec : p.tables.exec = Jvm.exec) (hb : c.code = cc) (hdg : decode cc (rx_zpc z) = .ok (.iastore, 1)) (hR : rx_R D cl A s xa nL H0 z r ad H locs ls) (hz : rx_h_ast (rx_isTc 0) (fun I _ _ v => rx_fit I 0 v) z = some zs)
    (K : ∀ z' ∈ zs, rx_G p l e R s m args below meth c Q D cl A xa nL H0 z.1.length z.2.2.1.length r ad z') : W p l e R s m args below meth c H locs z.2.2.2.1 z.2.2.2.2.1 Q (F0 m (rx_zpc z) ls ((rx_zst z).map (rx_iv r ad xa))) := by
  refine rx_h_ast_ok hR hz (fun ws tys k n tc t0 cA x i v rest hok hov hK hP hD hS hcs hw ht hsh hin kk => ?_) K
  have h0 := rx_isTc_ok hok
  subst h0
  obtain ⟨f, hf⟩ := hsh
  subst hf
  obtain ⟨q, hq⟩ := rx_fit_int hov
  subst hq
  refine va_iast hexec hb hK hP hD hS k t0 hw ht hin hdg fun H1 locs1 hP1 hD1 hS1 => kk (.inl _) H1 locs1 ⟨_, rfl⟩ (fun j => ?_) hP1 hD1 hS1
  show Value.int (upd f i.toNatClampNeg (Int32.ofInt (rx_ev r q)) j) = _
  unfold upd
  by_cases hj : j = i.toNatClampNeg
  · rw [if_pos hj, if_pos hj]; rfl
  · rw [if_neg hj, if_neg hj]; rfl
theorem rx_zast (hexec : p.tables.exec = Jvm.exec) (hb : c.code = cc) (hdg : decode cc (rx_zpc z) = .ok (.bastore, 1)) (hR : rx_R D cl A s xa nL H0 z r ad H locs ls) (hz : rx_h_ast (rx_isTc 1) (fun I _ _ v => rx_fit I 1 v) z = some zs)
    (K : ∀ z' ∈ zs, rx_G p l e R s m args below meth c Q D cl A xa nL H0 z.1.length z.2.2.1.length r ad z') : W p l e R s m args below meth c H locs z.2.2.2.1 z.2.2.2.2.1 Q (F0 m (rx_zpc z) ls ((rx_zst z).map (rx_iv r ad xa))) := by
  refine rx_h_ast_ok hR hz (fun ws tys k n tc t0 cA x i v rest hok hov hK hP hD hS hcs hw ht hsh hin kk => ?_) K
  have h0 := rx_isTc_ok hok
  subst h0
  obtain ⟨f, hf⟩ := hsh
  subst hf
  obtain ⟨q, hq, h01⟩ := rx_fit_bool hov
  subst hq
  have hnar : vp_nar .boolean (Int32.ofInt (rx_ev r q)) = Int32.ofInt (rx_ev r q) := by
    rcases rx_in01_ok hR.1 h01 with h | h <;> (rw [h]; rfl)
  refine va_zast hexec hb hK hP hD hS k t0 hw ht hin hdg fun H1 locs1 hP1 hD1 hS1 => kk (.inl _) H1 locs1 ⟨_, rfl⟩ (fun j => ?_) hP1 hD1 hS1
  show Value.int (upd f i.toNatClampNeg (vp_nar .boolean (Int32.ofInt (rx_ev r q))) j) = _
  rw [hnar]
  unfold upd
  by_cases hj : j = i.toNatClampNeg
  · rw [if_pos hj, if_pos hj]; rfl
  · rw [if_neg hj, if_neg hj]; rfl
theorem rx_last (hexec : p.tables.exec = Jvm.exec) (hb : c.code = cc) (hdg : decode cc (rx_zpc z) = .ok (.lastore, 1)) (hR : rx_R D cl A s xa nL H0 z r ad H locs ls) (hz : rx_h_ast (rx_isTc 2) (fun I _ _ v => rx_fit I 2 v) z = some zs)
    (K : ∀ z' ∈ zs, rx_G p l e R s m args below meth c Q D cl A xa nL H0 z.1.length z.2.2.1.length r ad z') : W p l e R s m args below meth c H locs z.2.2.2.1 z.2.2.2.2.1 Q (F0 m (rx_zpc z) ls ((rx_zst z).map (rx_iv r ad xa))) := by
  refine rx_h_ast_ok hR hz (fun ws tys k n tc t0 cA x i v rest hok hov hK hP hD hS hcs hw ht hsh hin kk => ?_) K
  have h0 := rx_isTc_ok hok
  subst h0
  obtain ⟨f, hf⟩ := hsh
  subst hf
  obtain ⟨q, hq⟩ := rx_fit_long hov
  subst hq
  refine va_last hexec hb hK hP hD hS k t0 hw ht hin hdg fun H1 locs1 hP1 hD1 hS1 => kk (.inr (.inl _)) H1 locs1 ⟨_, rfl⟩ (fun j => ?_) hP1 hD1 hS1
  show Value.long (vp_updL f i.toNatClampNeg (Int64.ofInt (rx_ev r q)) j) = _
  unfold vp_updL
  by_cases hj : j = i.toNatClampNeg
  · rw [if_pos hj, if_pos hj]; rfl
  · rw [if_neg hj, if_neg hj]; rfl
def rx_fitA (I : rx_I) (ht : List rx_C) (tc : Nat) (v : rx_V) : Bool := match v with
  | .inl (some k) => (match ht[k]? with
    | some (.inl (ci, _)) => tc == ci + 5
    | _ => false)
  | _ => false
theorem rx_fitA_ok {I : rx_I} {ht : List rx_C} {tc : Nat} {v : rx_V} (h : rx_fitA I ht tc v = true) : ∃ (k ci : Nat) (fs : List rx_X), v = .inl (some k) ∧ ht[k]? = some (.inl (ci, fs)) ∧ tc = ci + 5 := by
  unfold rx_fitA at h
  split at h
  · rename_i k
    split at h
    · rename_i ci fs he
      exact ⟨k, ci, fs, rfl, he, beq_iff_eq.mp h⟩
    · exact absurd h Bool.false_ne_true
  · exact absurd h Bool.false_ne_true
theorem rx_aast (hexec : p.tables.exec = Jvm.exec) (hb : c.code = cc) (hdg : decode cc (rx_zpc z) = .ok (.aastore, 1)) (hR : rx_R D cl A s xa nL H0 z r ad H locs ls) (hz : rx_h_ast rx_isRef rx_fitA z = some zs)
    (K : ∀ z' ∈ zs, rx_G p l e R s m args below meth c Q D cl A xa nL H0 z.1.length z.2.2.1.length r ad z') : W p l e R s m args below meth c H locs z.2.2.2.1 z.2.2.2.2.1 Q (F0 m (rx_zpc z) ls ((rx_zst z).map (rx_iv r ad xa))) := by
  refine rx_h_ast_ok hR hz (fun ws tys k n tc t0 cA x i v rest hok hov hK hP hD hS hcs hw ht hsh hin kk => ?_) K
  obtain ⟨kv, ci, fs, hv, hkv, htc⟩ := rx_fitA_ok hov
  subst hv; subst htc
  obtain ⟨f, hf⟩ := hsh
  subst hf
  obtain ⟨e1, hwv, vs, he1, -, -⟩ := hcs kv _ hkv
  subst he1
  obtain ⟨r0, hr0, -⟩ := hP kv _ hwv
  have ht2 : tys[t0]? = some (cA, .object r0.1) := by
    rw [ht]
    show some (cA, FieldType.object ((cl[ci]?).elim "" (fun q => q.1))) = _
    rw [show cl[ci]? = some r0 from hr0]
    rfl
  refine va_astq hexec hb hK hP hD hS k t0 kv ci hw ht2 hwv hr0 hin hdg fun H1 locs1 hP1 hD1 hS1 => kk (.inr (.inr (.inr (.inr _)))) H1 locs1 ⟨_, rfl⟩ (fun j => ?_) hP1 hD1 hS1
  show va_rf (va_up f i.toNatClampNeg (some (ad kv)) j) = _
  unfold va_up
  by_cases hj : j = i.toNatClampNeg
  · rw [if_pos hj, if_pos hj]; rfl
  · rw [if_neg hj, if_neg hj]; rfl
theorem rx_alen_ok {b : Nat → Int} {bs L : Nat} {xs : Nat → Int32} (hexec : p.tables.exec = Jvm.exec) (hb : c.code = cc) (hdg : decode cc (rx_zpc z) = .ok (.arraylength, 1)) (hR : rx_R D cl A s xa nL H0 z r ad H locs ls) (hz : rx_h_alen z = some zs)
    (hscr : rx_zst z = rx_zst z → ∀ t, (∃ n, rx_zst z = .inr (2, (n, 0)) :: t) → va_X (xa 0) L xs s H0 ∧ xa 0 < H0.size ∧ ¬ A (xa 0) ∧ r 1 = (L : Int))
    (K : ∀ z' ∈ zs, rx_G p l e R s m args below meth c Q D cl A xa nL H0 z.1.length z.2.2.1.length r ad z') : W p l e R s m args below meth c H locs z.2.2.2.1 z.2.2.2.2.1 Q (F0 m (rx_zpc z) ls ((rx_zst z).map (rx_iv r ad xa))) := by
  unfold rx_h_alen at hz
  split at hz
  · rename_i k t hst
    split at hz
    · rename_i tc n df ov hht
      cases hz
      obtain ⟨ws, tys, hK, hP, hD, hS, hl, hc⟩ := id hR.2.2.2.1
      obtain ⟨hcs, e0, hw, hcell⟩ := hc k _ hht
      obtain ⟨cA, t0, x, he0, htys, hsh, hel⟩ := hcell
      subst he0
      have hsts := rx_stsc hR
      rw [rx_pv_ok hst] at hsts ⊢
      refine va_alen (v := Int32.ofInt (n : Int)) hexec hb hK hP k t0 hw htys (by rw [Int32.ofInt_eq_ofNat]) hdg ?_
      refine rx_at (K _ List.mem_cons_self) rx_same.rf rx_sameA.rf (rx_R_nx hR fun y hy => ?_) rfl rfl rfl ?_
      · rcases List.mem_cons.mp hy with h | h
        · subst h; exact rx_sc0 hR 0 _
        · exact hsts y (List.mem_cons_of_mem _ h)
      · show rx_iv r ad xa (rx_n (n : Int)) :: _ = _
        rw [rx_n_iv hR.1]
    · cases hz
  · rename_i n t hst
    cases hz
    have hsts := rx_stsc hR
    have est := rx_pv_ok hst
    obtain ⟨hX, hbl, hbA, hrL⟩ := hscr rfl t ⟨n, est⟩
    obtain ⟨ws, tys, hK, hP, hD, hS, hl, hc⟩ := id hR.2.2.2.1
    rw [est] at hsts ⊢
    refine va_slen hexec hb hX hbl hbA hS hdg ?_
    refine rx_at (K _ List.mem_cons_self) rx_same.rf rx_sameA.rf (rx_R_nx hR fun y hy => ?_) rfl rfl rfl ?_
    · rcases List.mem_cons.mp hy with h | h
      · subst h; exact Nat.lt_of_lt_of_le (Nat.le_of_ble_eq_true rfl) hR.1.2.1
      · exact hsts y (List.mem_cons_of_mem _ h)
    · show Value.int (Int32.ofInt (r 1 + 0)) :: _ = _
      rw [hrL, Int.add_zero, Int32.ofInt_eq_ofNat]
  · cases hz
end RXM
end
section
/-! A REFLECTED MACHINE, part 9: new cells; switches; the script -/
def rx_dv (tc : Nat) : rx_V := match tc with
  | 0 => rx_n 0
  | 1 => rx_n 0
  | 2 => .inr (1, (0, 0))
  | _ => .inl none
theorem rx_dv_ok {I : rx_I} {r : Nat → Int} {ad xa : Nat → Nat} {ty : FieldType} (h : rx_sat I r) (h9 : rx_tyc ty ≠ 9) : rx_iv r ad xa (rx_dv (rx_tyc ty)) = defaultValue ty := by
  have e0 : rx_iv r ad xa (rx_n 0) = .int 0 := rx_n_iv h 0
  have e1 : rx_iv r ad xa (.inr (1, (0, 0))) = .long 0 := rx_nL_iv h 0
  match ty, h9 with
  | .int, _ => exact e0
  | .boolean, _ => exact e0
  | .long, _ => exact e1
  | .object _, _ => exact rfl
  | .array _, _ => exact rfl
  | .byte, h => exact absurd rfl h
  | .char, h => exact absurd rfl h
  | .short, h => exact absurd rfl h
  | .float, h => exact absurd rfl h
  | .double, h => exact absurd rfl h
theorem rx_dv_sc {N M tc : Nat} (h : 0 < N) : rx_sc N M (rx_dv tc) := by
  match tc with
  | 0 => exact h
  | 1 => exact h
  | 2 => exact h
  | _ + 3 => exact trivial
/-- a class that is made: its number, the kinds of its fields -/
def rx_Nok (s : State) (args : Array Value) (Ts : List Jvm.Cond) (own : String) (cl : List vw_C) (idx : Nat) (q : Nat × List Nat) : Prop :=
  ∃ (C : String) (T : u_T) (N : Nat) (ty : Nat → FieldType), cl[q.1]? = some (C, T, N) ∧ (∀ w ∈ u_ws C T N, w ∈ Ts) ∧ (∀ k, k < N → parseFieldDescriptor (T k).2.2.1 = some (ty k)) ∧ q.2.length = N ∧ (∀ k, k < N → q.2[k]? = some (rx_tyc (ty k)) ∧ rx_tyc (ty k) ≠ 9) ∧
    (Jvm.Cond.classLink own idx C).before args s = true ∧ (Jvm.Cond.instantiable C N).before args s = true ∧ (Jvm.Cond.initialized C).before args s = true
def rx_Ook (s : State) (args : Array Value) (own : String) (cl : List vw_C) (idx : Nat) (ci : Nat) : Prop :=
  ∃ (C : String) (T : u_T) (N : Nat), cl[ci]? = some (C, T, N) ∧ (Jvm.Cond.classLink own idx C).before args s = true ∧ va_AO C s
def rx_nxa (x : rx_C) (n : Nat) (z : rx_Z) (d : Nat) (t : List rx_V) : rx_Z := match z with
  | (I0, F1, ht0, c0, s0, pc0, lv0, _) => (I0, F1, ht0 ++ [x], c0 + 1, s0 + n, pc0 + d, lv0, .inl (some ht0.length) :: t)
def rx_h_new (cr : Nat → Option (Nat × List Nat)) (mc ms idx : Nat) (z : rx_Z) : Option (List rx_Z) := match cr idx with
  | some q => if z.2.2.2.1 + 1 ≤ mc ∧ z.2.2.2.2.1 + q.2.length ≤ ms then some [rx_nxa (.inl (q.1, q.2.map (fun tc => .inl (rx_dv tc)))) q.2.length z 3 (rx_zst z)] else none
  | none => none
def rx_len (I : rx_I) (e : rx_E) : Option Nat := match rx_bi I e with
  | some (lo, hi) => if lo = hi ∧ 0 ≤ lo ∧ lo ≤ 60000000 then some lo.toNat else none
  | none => none
def rx_atc (a : ArrayType) : Option Nat := match a with
  | .int => some 0
  | .boolean => some 1
  | .long => some 2
  | _ => none
def rx_h_newa (mc ms : Nat) (a : ArrayType) (z : rx_Z) : Option (List rx_Z) := match rx_pi (rx_zst z), rx_atc a with
  | some (e, t), some tc => match rx_len z.1 e with
    | some n => if z.2.2.2.1 + 1 ≤ mc ∧ z.2.2.2.2.1 + n ≤ ms then some [rx_nxa (.inr (tc, n, .inl (rx_dv tc), [])) n z 2 t] else none
    | none => none
  | _, _ => none
def rx_h_newq (ar : Nat → Option Nat) (mc ms idx : Nat) (z : rx_Z) : Option (List rx_Z) := match rx_pi (rx_zst z), ar idx with
  | some (e, t), some ci => match rx_len z.1 e with
    | some n => if z.2.2.2.1 + 1 ≤ mc ∧ z.2.2.2.2.1 + n ≤ ms then some [rx_nxa (.inr (ci + 5, n, .inl (.inl none), [])) n z 3 t] else none
    | none => none
  | _, _ => none
/-- the script's own entries: symbol 2 + its place; the length is symbol 1 -/
def rx_h_sld (z : rx_Z) : Option (List rx_Z) := match rx_pi (rx_zst z) with
  | some (ix, .inr (2, (_, 0)) :: t) => match rx_bi z.1 ix, rx_bi z.1 (1, 0) with
    | some (lo, hi), some (llo, _) => if lo = hi ∧ 0 ≤ lo ∧ lo < llo ∧ lo < 6 then some [rx_nx z 1 (.inr (0, (2 + lo.toNat, 0)) :: t)] else none
    | _, _ => none
  | _ => none
def rx_tcase (z : rx_Z) (a : rx_E) (t : List rx_V) (lo al ah : Int) (offs : Array Int) (j : Nat) : List rx_Z :=
  if al ≤ lo + (j : Int) ∧ lo + (j : Int) ≤ ah then rx_way z (2, a, (0, lo + (j : Int))) ((rx_zpc z : Int) + offs.getD j 0).toNat t else []
def rx_h_table (dflt lo hi : Int) (offs : Array Int) (z : rx_Z) : Option (List rx_Z) := match rx_pi (rx_zst z), rx_off (rx_zpc z) dflt with
  | some (a, t), some dt => match rx_bi z.1 a with
    | some (al, ah) => if (offs.size : Int) = hi - lo + 1 ∧ offs.toList.all (fun o => decide (0 ≤ (rx_zpc z : Int) + o)) = true ∧ lo ≤ hi + 1 then
        some ((List.range offs.size).flatMap (rx_tcase z (rx_nm z.1 a) t lo al ah offs) ++ ((if al < lo then rx_way z (0, rx_nm z.1 a, (0, lo)) dt t else []) ++ (if hi < ah then rx_way z (0, (0, hi), rx_nm z.1 a) dt t else [])))
      else none
    | none => none
  | _, _ => none
section RXN
variable {p : Program} {l : Launch} {e : Env} {R : Room} {s : State} {m : MethodId} {args : Array Value} {below : List Frame} {meth : Method} {c : Code} {Q : State → Prop}
variable {D : va_G} {cl : List vw_C} {A : Nat → Prop} {xa : Nat → Nat} {nL : Nat} {H0 H : Heap} {locs : List Loc} {ls : Array Slot} {r : Nat → Int} {ad : Nat → Nat}
variable {cc : ByteArray} {z : rx_Z} {zs : List rx_Z}
def rx_ad (ad : Nat → Nat) (n q : Nat) : Nat → Nat := fun j => if j = n then q else ad j
theorem rx_ad_same {n q : Nat} : rx_sameA n ad (rx_ad ad n q) := fun j hj => by
  unfold rx_ad
  rw [if_neg (Nat.ne_of_lt hj)]
theorem rx_ad_self {n q : Nat} : rx_ad ad n q n = q := by simp [rx_ad]
/-- a new cell: the state behind it -/
theorem rx_made {x : rx_C} {n d q : Nat} {t : List rx_V} {ws : va_W} {tys tys' : List (ClassId × FieldType)} {e' : va_E} {H1 : Heap} {k n' : Nat} (hR : rx_R D cl A s xa nL H0 z r ad H locs ls) (ht : ∀ v ∈ t, rx_sc z.1.length z.2.2.1.length v)
    (hl : ws.length = z.2.2.1.length) (hc : ∀ (k : Nat) (x : rx_C), z.2.2.1[k]? = some x → rx_csc z.1.length z.2.2.1.length x ∧ ∃ e : va_E, ws[k]? = some (ad k, e) ∧ rx_cell cl tys r ad xa x e)
    (htys : ∀ (x : rx_C) (e : va_E), rx_cell cl tys r ad xa x e → rx_cell cl tys' r ad xa x e) (hK1 : va_K D cl tys' s) (hP1 : va_P D cl (ws ++ [(q, e')]) H1) (hD1 : va_D A (ws ++ [(q, e')])) (hS1 : va_S A H0 H1 locs) (hx : rx_csc z.1.length z.2.2.1.length x) (he : rx_cell cl tys' r ad xa x e')
    (hk : z.2.2.2.1 + 1 = k) (hn : z.2.2.2.2.1 + n = n')
    (K : rx_G p l e R s m args below meth c Q D cl A xa nL H0 z.1.length z.2.2.1.length r ad (rx_nxa x n z d t)) : W p l e R s m args below meth c H1 locs k n' Q (F0 m (rx_zpc z + d) ls (.ref q :: t.map (rx_iv r ad xa))) := by
  have ha : rx_sameA z.2.2.1.length ad (rx_ad ad z.2.2.1.length q) := rx_ad_same
  have hlen : (z.2.2.1 ++ [x]).length = z.2.2.1.length + 1 := by simp
  have hW : rx_W D cl A s xa z.1.length (z.2.2.1 ++ [x]) r (rx_ad ad z.2.2.1.length q) H0 H1 locs := by
    refine ⟨ws ++ [(q, e')], tys', hK1, hP1, hD1, hS1, by simp [hl], fun j y hj => ?_⟩
    rw [hlen]
    by_cases hlt : j < z.2.2.1.length
    · rw [List.getElem?_append_left hlt] at hj
      obtain ⟨h1, e2, h2, h3⟩ := hc j y hj
      refine ⟨rx_csc.mono h1 (Nat.le_refl _) (Nat.le_succ _), e2, ?_, rx_cell_ext (htys _ _ h3) h1 rx_same.rf ha⟩
      rw [List.getElem?_append_left (by rw [hl]; exact hlt), ha j hlt]
      exact h2
    · rw [List.getElem?_append_right (Nat.not_lt.mp hlt)] at hj
      have hz : j - z.2.2.1.length < 1 := (List.getElem?_eq_some_iff.mp hj).1
      have e : j = z.2.2.1.length := by omega
      subst e
      rw [Nat.sub_self] at hj
      cases hj
      refine ⟨rx_csc.mono hx (Nat.le_refl _) (Nat.le_succ _), e', ?_, rx_cell_ext he hx rx_same.rf ha⟩
      rw [← hl, List.getElem?_append_right (Nat.le_refl _), Nat.sub_self, hl, rx_ad_self]
      rfl
  have hR' : rx_R D cl A s xa nL H0 (rx_nxa x n z d t) r (rx_ad ad z.2.2.1.length q) H1 locs ls := by
    refine ⟨hR.1, hR.2.1, hR.2.2.1, hW, ?_, ?_, ?_⟩
    · have h := rx_lvh hR
      show lv_has ls nL (rx_lvs r (rx_ad ad z.2.2.1.length q) xa (rx_zlv z))
      rw [rx_lvs_ext (rx_lvsc hR) rx_same.rf ha]
      exact h
    · intro y hy
      show rx_sc z.1.length (z.2.2.1 ++ [x]).length y.2
      rw [hlen]
      exact rx_sc.mono (rx_lvsc hR y hy) (Nat.le_refl _) (Nat.le_succ _)
    · intro y hy
      show rx_sc z.1.length (z.2.2.1 ++ [x]).length y
      rw [hlen]
      rcases List.mem_cons.mp hy with h | h
      · subst h; exact Nat.lt_succ_self _
      · exact rx_sc.mono (ht y h) (Nat.le_refl _) (Nat.le_succ _)
  refine rx_at K rx_same.rf ha hR' rfl hk hn ?_
  show Value.ref (rx_ad ad z.2.2.1.length q z.2.2.1.length) :: t.map (rx_iv r (rx_ad ad z.2.2.1.length q) xa) = _
  rw [rx_ad_self, rx_st_ext ht rx_same.rf ha]
theorem rx_h_new_ok {cr : Nat → Option (Nat × List Nat)} {mc ms idx : Nat} {Ts : List Jvm.Cond} {own : String} (hexec : p.tables.exec = Jvm.exec) (hb : c.code = cc) (hts : ∀ w ∈ Ts, w.before args s = true) (hown : s.vm.findClass own = some m.cls) (hA : ∀ q, H0.size ≤ q → A q) (hmc : mc ≤ R.cells) (hms : ms ≤ R.slots) (hC : ∀ q, cr idx = some q → rx_Nok s args Ts own cl idx q) (hdg : decode cc (rx_zpc z) = .ok (.new idx, 3))
    (hR : rx_R D cl A s xa nL H0 z r ad H locs ls) (hz : rx_h_new cr mc ms idx z = some zs)
    (K : ∀ z' ∈ zs, rx_G p l e R s m args below meth c Q D cl A xa nL H0 z.1.length z.2.2.1.length r ad z') : W p l e R s m args below meth c H locs z.2.2.2.1 z.2.2.2.2.1 Q (F0 m (rx_zpc z) ls ((rx_zst z).map (rx_iv r ad xa))) := by
  unfold rx_h_new at hz
  split at hz
  · rename_i q hq
    split at hz
    · rename_i hroom
      cases hz
      obtain ⟨ws, tys, hK, hP, hD, hS, hl, hc⟩ := id hR.2.2.2.1
      obtain ⟨C, T, N, ty, f1, f2, f3, f4, f5, f6, f7, f8⟩ := hC q hq
      rw [f4] at hroom
      have hlen : (q.2.map (fun tc => rx_iv r ad xa (rx_dv tc))).length = N := by rw [List.length_map, f4]
      refine va_new (ci := q.1) (fs := q.2.map (fun tc => rx_iv r ad xa (rx_dv tc))) hexec hb hts f2 ty f3 hown f6 f7 f8 hK hP hD hS hA f1 (fun j hj => ?_) (Nat.le_trans hroom.1 hmc) (Nat.le_trans hroom.2 hms) hdg (fun a H1 hP1 hD1 hS1 => ?_)
      · obtain ⟨g1, g2⟩ := f5 j hj
        unfold vp_V
        rw [List.getD_eq_getElem?_getD, List.getElem?_map, g1]
        exact (rx_dv_ok hR.1 g2).symm
      · refine rx_made hR (rx_stsc hR) hl hc (fun _ _ h => h) hK hP1 hD1 hS1 ?_ ?_ rfl (by rw [f4]) (K _ List.mem_cons_self)
        · intro j f hj
          rw [List.getElem?_map] at hj
          obtain ⟨tc, h1, h2⟩ := Option.map_eq_some_iff.mp hj
          subst h2
          exact rx_dv_sc (rx_pos hR.1)
        · refine ⟨_, rfl, by rw [List.length_map, List.length_map], fun j f hj => ?_⟩
          rw [List.getElem?_map] at hj
          obtain ⟨tc, h1, h2⟩ := Option.map_eq_some_iff.mp hj
          subst h2
          exact ⟨_, by rw [List.getElem?_map, h1]; rfl, rfl⟩
    · cases hz
  · cases hz
theorem rx_len_ok {I : rx_I} {ee : rx_E} {n : Nat} (h : rx_sat I r) (hn : rx_len I ee = some n) : ¬ Int32.ofInt (rx_ev r ee) < 0 ∧ (Int32.ofInt (rx_ev r ee)).toNatClampNeg = n ∧ n ≤ 60000000 := by
  unfold rx_len at hn
  split at hn
  · rename_i lo hi he
    split at hn
    · rename_i hc
      cases hn
      obtain ⟨h1, h2, h3, -⟩ := rx_bi_ok h he
      refine ⟨?_, ?_, by omega⟩
      · rw [Int32.lt_iff_toInt_lt, h3, Int32.toInt_zero]; omega
      · show (Int32.ofInt (rx_ev r ee)).toInt.toNat = _
        rw [h3]; omega
    · cases hn
  · cases hn
theorem rx_h_newa_ok {mc ms : Nat} {a : ArrayType} (hexec : p.tables.exec = Jvm.exec) (hb : c.code = cc) (harr : (Jvm.Cond.arrayClass (newarray.typeOf a)).before args s = true) (hA : ∀ q, H0.size ≤ q → A q) (hmc : mc ≤ R.cells) (hms : ms ≤ R.slots) (hdg : decode cc (rx_zpc z) = .ok (.newarray a, 2))
    (hR : rx_R D cl A s xa nL H0 z r ad H locs ls) (hz : rx_h_newa mc ms a z = some zs)
    (K : ∀ z' ∈ zs, rx_G p l e R s m args below meth c Q D cl A xa nL H0 z.1.length z.2.2.1.length r ad z') : W p l e R s m args below meth c H locs z.2.2.2.1 z.2.2.2.2.1 Q (F0 m (rx_zpc z) ls ((rx_zst z).map (rx_iv r ad xa))) := by
  unfold rx_h_newa at hz
  split at hz
  · rename_i ee t tc he htc
    split at hz
    · rename_i n hn
      split at hz
      · rename_i hroom
        cases hz
        obtain ⟨ws, tys, hK, hP, hD, hS, hl, hc⟩ := id hR.2.2.2.1
        obtain ⟨n1, n2, n3⟩ := rx_len_ok hR.1 hn
        have hsts := rx_stsc hR
        rw [rx_pi_ok he] at hsts ⊢
        have ht : ∀ v ∈ t, rx_sc z.1.length z.2.2.1.length v := fun v hv => hsts v (List.mem_cons_of_mem _ hv)
        have e0 : rx_iv r ad xa (rx_dv 0) = .int 0 := rx_n_iv hR.1 0
        have e2 : rx_iv r ad xa (rx_dv 2) = .long 0 := rx_nL_iv hR.1 0
        have hx : rx_csc z.1.length z.2.2.1.length (.inr (tc, n, .inl (rx_dv tc), [])) := fun j hj => rx_dv_sc (rx_pos hR.1)
        match a, htc, harr, hdg with
        | .int, htc, harr, hdg =>
          cases htc
          exact va_newa (atype := .int) (ty := .int) (a0 := (n, .inl (fun _ => 0))) hexec hb harr rfl hK hP hD hS hA (fun _ => rfl) n1 n2 (by show n * 4 ≤ _; omega) (Nat.le_trans hroom.1 hmc) (Nat.le_trans hroom.2 hms) hdg (fun q cA H1 hK1 hP1 hD1 hS1 => rx_made (n := n) hR ht hl hc (fun _ _ h => rx_cell_tys h) hK1 hP1 hD1 hS1 hx ⟨cA, tys.length, _, rfl, by simp; rfl, ⟨_, rfl⟩, fun j hj => e0.symm⟩ rfl rfl (K _ List.mem_cons_self))
        | .boolean, htc, harr, hdg =>
          cases htc
          exact va_newa (atype := .boolean) (ty := .boolean) (a0 := (n, .inl (fun _ => 0))) hexec hb harr rfl hK hP hD hS hA (fun _ => rfl) n1 n2 (by show n * 1 ≤ _; omega) (Nat.le_trans hroom.1 hmc) (Nat.le_trans hroom.2 hms) hdg (fun q cA H1 hK1 hP1 hD1 hS1 => rx_made (n := n) hR ht hl hc (fun _ _ h => rx_cell_tys h) hK1 hP1 hD1 hS1 hx ⟨cA, tys.length, _, rfl, by simp; rfl, ⟨_, rfl⟩, fun j hj => e0.symm⟩ rfl rfl (K _ List.mem_cons_self))
        | .long, htc, harr, hdg =>
          cases htc
          exact va_newa (atype := .long) (ty := .long) (a0 := (n, .inr (.inl (fun _ => 0)))) hexec hb harr rfl hK hP hD hS hA (fun _ => rfl) n1 n2 (by show n * 8 ≤ _; omega) (Nat.le_trans hroom.1 hmc) (Nat.le_trans hroom.2 hms) hdg (fun q cA H1 hK1 hP1 hD1 hS1 => rx_made (n := n) hR ht hl hc (fun _ _ h => rx_cell_tys h) hK1 hP1 hD1 hS1 hx ⟨cA, tys.length, _, rfl, by simp; rfl, ⟨_, rfl⟩, fun j hj => e2.symm⟩ rfl rfl (K _ List.mem_cons_self))
        | .char, htc, _, _ => cases htc
        | .float, htc, _, _ => cases htc
        | .double, htc, _, _ => cases htc
        | .byte, htc, _, _ => cases htc
        | .short, htc, _, _ => cases htc
      · cases hz
    · cases hz
  · cases hz
theorem rx_h_newq_ok {ar : Nat → Option Nat} {mc ms idx : Nat} {own : String} (hexec : p.tables.exec = Jvm.exec) (hb : c.code = cc) (hown : s.vm.findClass own = some m.cls) (hA : ∀ q, H0.size ≤ q → A q) (hmc : mc ≤ R.cells) (hms : ms ≤ R.slots) (hC : ∀ ci, ar idx = some ci → rx_Ook s args own cl idx ci) (hdg : decode cc (rx_zpc z) = .ok (.anewarray idx, 3))
    (hR : rx_R D cl A s xa nL H0 z r ad H locs ls) (hz : rx_h_newq ar mc ms idx z = some zs)
    (K : ∀ z' ∈ zs, rx_G p l e R s m args below meth c Q D cl A xa nL H0 z.1.length z.2.2.1.length r ad z') : W p l e R s m args below meth c H locs z.2.2.2.1 z.2.2.2.2.1 Q (F0 m (rx_zpc z) ls ((rx_zst z).map (rx_iv r ad xa))) := by
  unfold rx_h_newq at hz
  split at hz
  · rename_i ee t ci he hci
    split at hz
    · rename_i n hn
      split at hz
      · rename_i hroom
        cases hz
        obtain ⟨ws, tys, hK, hP, hD, hS, hl, hc⟩ := id hR.2.2.2.1
        obtain ⟨n1, n2, n3⟩ := rx_len_ok hR.1 hn
        obtain ⟨C, T, N, f1, f2, f3⟩ := hC ci hci
        have hsts := rx_stsc hR
        rw [rx_pi_ok he] at hsts ⊢
        have ht : ∀ v ∈ t, rx_sc z.1.length z.2.2.1.length v := fun v hv => hsts v (List.mem_cons_of_mem _ hv)
        have hty : rx_ty cl (ci + 5) = .object C := by
          show FieldType.object ((cl[ci]?).elim "" (fun q => q.1)) = _
          rw [f1]
          rfl
        exact va_newq hexec hb hown f2 f3 hK hP hD hS hA n1 n2 (by omega) (Nat.le_trans hroom.1 hmc) (Nat.le_trans hroom.2 hms) hdg (fun q cA H1 hK1 hP1 hD1 hS1 => rx_made (x := .inr (ci + 5, n, .inl (.inl none), [])) hR ht hl hc (fun _ _ h => rx_cell_tys h) hK1 hP1 hD1 hS1 (fun j hj => trivial) ⟨cA, tys.length, _, rfl, by rw [hty]; simp, ⟨_, rfl⟩, fun j hj => rfl⟩ rfl rfl (K _ List.mem_cons_self))
      · cases hz
    · cases hz
  · cases hz
theorem rx_h_sld_ok {L : Nat} {xs : Nat → Int32} (hexec : p.tables.exec = Jvm.exec) (hb : c.code = cc) (hX : va_X (xa 0) L xs s H0) (hbl : xa 0 < H0.size) (hbA : ¬ A (xa 0)) (hrL : r 1 = (L : Int)) (hrx : ∀ j : Nat, j < 6 → r (2 + j) = (xs j).toInt) (hdg : decode cc (rx_zpc z) = .ok (.iaload, 1))
    (hR : rx_R D cl A s xa nL H0 z r ad H locs ls) (hz : rx_h_sld z = some zs)
    (K : ∀ z' ∈ zs, rx_G p l e R s m args below meth c Q D cl A xa nL H0 z.1.length z.2.2.1.length r ad z') : W p l e R s m args below meth c H locs z.2.2.2.1 z.2.2.2.2.1 Q (F0 m (rx_zpc z) ls ((rx_zst z).map (rx_iv r ad xa))) := by
  unfold rx_h_sld at hz
  split at hz
  · rename_i ix n t hst
    split at hz
    · rename_i lo hi llo lhi h1 h2
      split at hz
      · rename_i hcond
        obtain ⟨c1, c2, c3, c4⟩ := hcond
        cases hz
        obtain ⟨ws, tys, hK, hP, hD, hS, hl, hc⟩ := id hR.2.2.2.1
        obtain ⟨g1, g2, g3, g4⟩ := rx_bi_ok hR.1 h1
        obtain ⟨k1, k2, -, -⟩ := rx_bi_ok hR.1 h2
        have eL : rx_ev r (1, 0) = (L : Int) := by
          unfold rx_ev
          rw [hrL]
          exact Int.add_zero _
        rw [eL] at k1
        have hsts := rx_stsc hR
        rw [rx_pi_ok hst] at hsts ⊢
        have hin : vp_in (Int32.ofInt (rx_ev r ix)) L := vp_in_iff.mpr (by rw [g3]; omega)
        refine va_sld hexec hb hX hbl hbA hS hin hdg ?_
        have ei : (Int32.ofInt (rx_ev r ix)).toNatClampNeg = lo.toNat := by
          show (Int32.ofInt (rx_ev r ix)).toInt.toNat = _
          rw [g3]
          omega
        rw [ei]
        refine rx_at (K _ List.mem_cons_self) rx_same.rf rx_sameA.rf (rx_R_nx hR fun y hy => ?_) rfl rfl rfl ?_
        · rcases List.mem_cons.mp hy with h | h
          · subst h
            have := hR.1.2.1
            show 2 + lo.toNat < z.1.length
            omega
          · exact hsts y (List.mem_cons_of_mem _ (List.mem_cons_of_mem _ h))
        · show Value.int (Int32.ofInt (r (2 + lo.toNat) + 0)) :: _ = _
          rw [hrx _ (by omega), Int.add_zero, Int32.ofInt_toInt]
      · cases hz
    · cases hz
  · cases hz
theorem rx_h_table_ok {dflt lo hi : Int} {offs : Array Int} {len : Nat} (hexec : p.tables.exec = Jvm.exec) (hb : c.code = cc) (hdg : decode cc (rx_zpc z) = .ok (.tableswitch dflt lo hi offs, len))
    (hR : rx_R D cl A s xa nL H0 z r ad H locs ls) (hz : rx_h_table dflt lo hi offs z = some zs)
    (K : ∀ z' ∈ zs, rx_G p l e R s m args below meth c Q D cl A xa nL H0 z.1.length z.2.2.1.length r ad z') : W p l e R s m args below meth c H locs z.2.2.2.1 z.2.2.2.2.1 Q (F0 m (rx_zpc z) ls ((rx_zst z).map (rx_iv r ad xa))) := by
  unfold rx_h_table at hz
  split at hz
  · rename_i a t dt ha hdt
    split at hz
    · rename_i al ah hbi
      split at hz
      · rename_i hcond
        obtain ⟨c1, c2, c3⟩ := hcond
        cases hz
        obtain ⟨g1, g2, g3, g4⟩ := rx_bi_ok hR.1 hbi
        obtain ⟨m1, m2⟩ := rx_nm_ok (e := a) hR.1
        have hsts := rx_stsc hR
        rw [rx_pi_ok ha] at hsts ⊢
        have ht : ∀ v ∈ t, rx_sc z.1.length z.2.2.1.length v := fun v hv => hsts v (List.mem_cons_of_mem _ hv)
        by_cases hlo : rx_ev r a < lo
        · refine lv_tableOut hexec hb hdg (Or.inl (by rw [g3]; exact hlo)) (rx_off_ok hdt) ?_
          refine rx_way_ok (f := (0, rx_nm z.1 a, (0, lo))) hR ?_ (Nat.le_of_ble_eq_true rfl) (m2 g4) (rx_pos hR.1) ht fun z' hz' => K z' (List.mem_append_right _ (List.mem_append_left _ ?_))
          · show rx_ev r (rx_nm z.1 a) < rx_ev r (0, lo)
            rw [m1, rx_ev0 hR.1]
            exact hlo
          · rw [if_pos (by omega)]
            exact hz'
        · by_cases hhi : hi < rx_ev r a
          · refine lv_tableOut hexec hb hdg (Or.inr (by rw [g3]; exact hhi)) (rx_off_ok hdt) ?_
            refine rx_way_ok (f := (0, (0, hi), rx_nm z.1 a)) hR ?_ (Nat.le_of_ble_eq_true rfl) (rx_pos hR.1) (m2 g4) ht fun z' hz' => K z' (List.mem_append_right _ (List.mem_append_right _ ?_))
            · show rx_ev r (0, hi) < rx_ev r (rx_nm z.1 a)
              rw [m1, rx_ev0 hR.1]
              exact hhi
            · rw [if_pos (by omega)]
              exact hz'
          · have hj : (rx_ev r a - lo).toNat < offs.size := by omega
            have hget : offs[(rx_ev r a - lo).toNat]? = some (offs[(rx_ev r a - lo).toNat]) := Array.getElem?_eq_getElem hj
            have hgd : offs.getD (rx_ev r a - lo).toNat 0 = offs[(rx_ev r a - lo).toNat] := by
              rw [Array.getD_eq_getD_getElem?, hget]
              rfl
            have hpos : 0 ≤ (rx_zpc z : Int) + offs[(rx_ev r a - lo).toNat] := by
              have := List.all_eq_true.mp c2 offs[(rx_ev r a - lo).toNat] (by simp)
              exact of_decide_eq_true this
            refine lv_tableIn hexec hb hdg (by rw [g3]; exact hlo) (by rw [g3]; exact hhi) (off := offs[(rx_ev r a - lo).toNat]) (tgt := ((rx_zpc z : Int) + offs[(rx_ev r a - lo).toNat]).toNat) (by rw [g3]; exact hget) (by omega) ?_
            rw [← hgd]
            have hcast : lo + (((rx_ev r a - lo).toNat : Nat) : Int) = rx_ev r a := by omega
            refine rx_way_ok (f := (2, rx_nm z.1 a, (0, lo + (((rx_ev r a - lo).toNat : Nat) : Int)))) hR ?_ (Nat.le_of_ble_eq_true rfl) (m2 g4) (rx_pos hR.1) ht fun z' hz' => K z' (List.mem_append_left _ (List.mem_flatMap.mpr ⟨(rx_ev r a - lo).toNat, List.mem_range.mpr hj, ?_⟩))
            · show rx_ev r (rx_nm z.1 a) = rx_ev r (0, _)
              rw [m1, rx_ev0 hR.1]
              exact hcast.symm
            · unfold rx_tcase
              rw [if_pos (by rw [hcast]; exact ⟨g1, g2⟩)]
              exact hz'
      · cases hz
    · cases hz
  · cases hz
end RXN
end
section
/-! A REFLECTED MACHINE, part 10: one instruction -/
/-- a method: number of its class, bytes, locals, what it answers, name, is it a constructor, cells and slots that it may make -/
abbrev rx_Mt : Type := Nat × ByteArray × Nat × Option FieldType × MethodName × Bool × Nat × Nat
/-- a call: how (0 virtual, 1 static, 2 constructor, 3 4 5 the same of a nest mate), parameters, number of the class, of the method -/
abbrev rx_J : Type := Nat × Nat × Nat × Nat
/-- tables: fields, classes made, classes of rows, constants, calls, methods -/
abbrev rx_Tb : Type := (Nat → Nat → Option rx_Q) × (Nat → Nat → Option (Nat × List Nat)) × (Nat → Nat → Option Nat) × (Nat → Nat → Option rx_V) × (Nat → Nat → Option rx_J) × (Nat → Option rx_Mt)
def rx_if {α : Type} (b : Bool) (x : Option α) : Option α := match b with
  | true => x
  | false => none
theorem rx_if_ok {α : Type} {b : Bool} {x : Option α} {y : α} (h : rx_if b x = some y) : b = true ∧ x = some y := by
  cases b with
  | true => exact ⟨rfl, h⟩
  | false => exact absurd (show (none : Option α) = some y from h) (fun q => by cases q)
theorem rx_ifn {α : Type} {a b : Nat} {x : Option α} {y : α} (h : rx_if (a == b) x = some y) : a = b ∧ x = some y := ⟨beq_iff_eq.mp (rx_if_ok h).1, (rx_if_ok h).2⟩
def rx_or {α : Type} (x y : Option α) : Option α := match x with
  | some a => some a
  | none => y
theorem rx_or_ok {α : Type} {x y : Option α} {a : α} (h : rx_or x y = some a) : x = some a ∨ y = some a := by
  cases x with
  | some b => exact Or.inl h
  | none => exact Or.inr h
def rx_h_const (kc : Nat → Nat → Option rx_V) (o idx kd d : Nat) (z : rx_Z) : Option (List rx_Z) := match kc o idx with
  | some (.inr (k, (0, n))) => rx_if (k == kd) (rx_h_push (.inr (k, (0, n))) d z)
  | _ => none
/-- the top is a cell: no row of the script -/
def rx_topc (z : rx_Z) : Bool := match rx_pv (rx_zst z) with
  | some (.inl _, _) => true
  | _ => false
def rx_step (T : rx_Tb) (lw : Bool) (M : rx_Mt) (i : Instr) (len : Nat) (nx : Except DecodeError (Instr × Nat)) (z : rx_Z) : Option (List rx_Z) := match i with
  | .iconst n => rx_if (len == 1) (rx_h_push (rx_n n) 1 z)
  | .bipush n => rx_if (len == 2) (rx_h_push (rx_n (Int8.ofInt n).toInt32.toInt) 2 z)
  | .sipush n => rx_if (len == 3) (rx_h_push (rx_n (Int16.ofInt n).toInt32.toInt) 3 z)
  | .lconst n => rx_if (len == 1) (rx_h_push (.inr (1, (0, ((n : Nat) : Int)))) 1 z)
  | .aconst_null => rx_if (len == 1) (rx_h_push (.inl none) 1 z)
  | .ldc idx => rx_if (len == 2) (rx_h_const T.2.2.2.1 M.1 idx 0 2 z)
  | .ldc_w idx => rx_if (len == 3) (rx_h_const T.2.2.2.1 M.1 idx 0 3 z)
  | .ldc2_w idx => rx_if (len == 3) (rx_h_const T.2.2.2.1 M.1 idx 1 3 z)
  | .iload_n k => rx_if (len == 1) (rx_h_load 0 k 1 z)
  | .iload k => rx_if (len == 2) (rx_h_load 0 k 2 z)
  | .lload_n k => rx_if (len == 1) (rx_h_load 1 k 1 z)
  | .lload k => rx_if (len == 2) (rx_h_load 1 k 2 z)
  | .aload_n k => rx_if (len == 1) (rx_h_loadA k 1 z)
  | .aload k => rx_if (len == 2) (rx_h_loadA k 2 z)
  | .istore_n k => rx_if (len == 1) (rx_h_istore M.2.2.1 k 1 z)
  | .istore k => rx_if (len == 2) (rx_h_istore M.2.2.1 k 2 z)
  | .lstore_n k => rx_if (len == 1) (rx_h_lstore M.2.2.1 k 1 z)
  | .lstore k => rx_if (len == 2) (rx_h_lstore M.2.2.1 k 2 z)
  | .astore_n k => rx_if (len == 1) (rx_h_astore M.2.2.1 k 1 z)
  | .astore k => rx_if (len == 2) (rx_h_astore M.2.2.1 k 2 z)
  | .iinc k n => rx_if (len == 3) (rx_h_iinc M.2.2.1 k n z)
  | .iadd => rx_if (len == 1) (rx_h_bin 0 z)
  | .isub => rx_if (len == 1) (rx_h_bin 1 z)
  | .imul => rx_if (len == 1) (rx_h_bin 2 z)
  | .idiv => rx_if (len == 1) (rx_h_div 3 z)
  | .irem => rx_if (len == 1) (rx_h_div 4 z)
  | .iand => rx_if (len == 1) (rx_h_bin 5 z)
  | .ior => rx_if (len == 1) (rx_h_bin 6 z)
  | .ixor => rx_if (len == 1) (rx_h_bin 7 z)
  | .ishl => rx_if (len == 1) (rx_h_bin 8 z)
  | .ishr => rx_if (len == 1) (rx_h_bin 9 z)
  | .iushr => rx_if (len == 1) (rx_h_bin 10 z)
  | .ineg => rx_if (len == 1) (rx_h_ineg z)
  | .ladd => rx_if (len == 1) (rx_h_binL 0 z)
  | .lsub => rx_if (len == 1) (rx_h_binL 1 z)
  | .lmul => rx_if (len == 1) (rx_h_binL 2 z)
  | .ldiv => rx_if (len == 1) (rx_h_divL 3 z)
  | .lrem => rx_if (len == 1) (rx_h_divL 4 z)
  | .i2l => rx_if (len == 1) (rx_h_i2l z)
  | .lcmp => rx_if (len == 1) (rx_h_lcmp nx z)
  | .ifCond cnd off => rx_if (len == 3) (rx_h_if cnd off z)
  | .if_icmp cnd off => rx_if (len == 3) (rx_h_icmp cnd off z)
  | .goto off => rx_if (len == 3) (rx_h_goto off z)
  | .tableswitch dflt lo hi offs => rx_h_table dflt lo hi offs z
  | .dup => rx_if (len == 1) (rx_h_dup z)
  | .dup2 => rx_if (len == 1) (rx_h_dup2 z)
  | .pop => rx_if (len == 1) (rx_h_pop z)
  | .getfield idx => rx_if (len == 3) (rx_h_get (T.1 M.1) idx z)
  | .putfield idx => rx_if (len == 3) (rx_h_put (T.1 M.1) M.2.2.2.2.2.1 idx z)
  | .arraylength => rx_if (len == 1 && (lw || rx_topc z)) (rx_h_alen z)
  | .iaload => rx_if (len == 1) (rx_or (rx_h_ald (rx_isTc 0) z) (rx_if lw (rx_h_sld z)))
  | .baload => rx_if (len == 1) (rx_h_ald (rx_isTc 1) z)
  | .laload => rx_if (len == 1) (rx_h_ald (rx_isTc 2) z)
  | .aaload => rx_if (len == 1) (rx_h_ald rx_isRef z)
  | .iastore => rx_if (len == 1) (rx_h_ast (rx_isTc 0) (fun I _ _ v => rx_fit I 0 v) z)
  | .bastore => rx_if (len == 1) (rx_h_ast (rx_isTc 1) (fun I _ _ v => rx_fit I 1 v) z)
  | .lastore => rx_if (len == 1) (rx_h_ast (rx_isTc 2) (fun I _ _ v => rx_fit I 2 v) z)
  | .aastore => rx_if (len == 1) (rx_h_ast rx_isRef rx_fitA z)
  | .new idx => rx_if (len == 3) (rx_h_new (T.2.1 M.1) M.2.2.2.2.2.2.1 M.2.2.2.2.2.2.2 idx z)
  | .newarray a => rx_if (len == 2) (rx_h_newa M.2.2.2.2.2.2.1 M.2.2.2.2.2.2.2 a z)
  | .anewarray idx => rx_if (len == 3) (rx_h_newq (T.2.2.1 M.1) M.2.2.2.2.2.2.1 M.2.2.2.2.2.2.2 idx z)
  | _ => none
/-- a frame of a method -/
def rx_Fr (G NW : List Jvm.Cond) (AO : List String) (PX : State → Prop) (p : Program) (s : State) (m : MethodId) (args : Array Value) (meth : Method) (c : Code) (M : rx_Mt) : Prop :=
  p.tables.exec = Jvm.exec ∧ c.code = M.2.1 ∧ meth.sig.returnType = M.2.2.2.1 ∧ c.maxLocals = M.2.2.1 ∧ s.vm.findClass M.2.2.2.2.1.cls = some m.cls ∧ meth.locks = false ∧ (∀ w ∈ G, w.before args s = true) ∧ (∀ w ∈ NW, va_Nw w s) ∧ (∀ C ∈ AO, va_AO C s) ∧ PX s ∧ (M.2.2.2.2.2.1 = true → meth.name = "<init>")
def rx_frOK (G NW : List Jvm.Cond) (cl : List vw_C) (nm : Nat → String) (T : rx_Tb) : Prop := ∀ (o idx : Nat) (q : rx_Q), T.1 o idx = some q →
  ∃ (C : String) (F : u_T) (N : Nat) (ty : Nat → FieldType), cl[q.1]? = some (C, F, N) ∧ q.2.1 < N ∧ (∀ w ∈ u_ws C F N, w ∈ G) ∧ (∀ k, k < N → parseFieldDescriptor (F k).2.2.1 = some (ty k)) ∧ (∀ a, a < N → ∀ b, b < N → a ≠ b → (F a).2.1 ≠ (F b).2.1) ∧
    rx_tyc (ty q.2.1) = q.2.2.1 ∧ (F q.2.1).2.2.2 = q.2.2.2.1 ∧ (q.2.2.2.1 = true → q.2.2.2.2 = false → (F q.2.1).1 = nm o) ∧
    ((q.2.2.2.2 = false ∧ Jvm.Cond.fieldLink (nm o) idx (F q.2.1).1 (F q.2.1).2.1 (F q.2.1).2.2.1 ∈ G) ∨ (q.2.2.2.2 = true ∧ ∃ host : String, Jvm.Cond.fieldLinkNest (nm o) idx (F q.2.1).1 (F q.2.1).2.1 (F q.2.1).2.2.1 host ∈ NW))
def rx_crOK (G : List Jvm.Cond) (cl : List vw_C) (nm : Nat → String) (T : rx_Tb) : Prop := ∀ (o idx : Nat) (q : Nat × List Nat), T.2.1 o idx = some q →
  ∃ (C : String) (F : u_T) (N : Nat) (ty : Nat → FieldType), cl[q.1]? = some (C, F, N) ∧ (∀ w ∈ u_ws C F N, w ∈ G) ∧ (∀ k, k < N → parseFieldDescriptor (F k).2.2.1 = some (ty k)) ∧ q.2.length = N ∧ (∀ k, k < N → q.2[k]? = some (rx_tyc (ty k)) ∧ rx_tyc (ty k) ≠ 9) ∧
    Jvm.Cond.classLink (nm o) idx C ∈ G ∧ Jvm.Cond.instantiable C N ∈ G ∧ Jvm.Cond.initialized C ∈ G
def rx_arOK (G : List Jvm.Cond) (AO : List String) (cl : List vw_C) (nm : Nat → String) (T : rx_Tb) : Prop := ∀ (o idx ci : Nat), T.2.2.1 o idx = some ci →
  ∃ (C : String) (F : u_T) (N : Nat), cl[ci]? = some (C, F, N) ∧ Jvm.Cond.classLink (nm o) idx C ∈ G ∧ C ∈ AO
def rx_kcOK (G : List Jvm.Cond) (nm : Nat → String) (T : rx_Tb) : Prop := ∀ (o idx k : Nat) (n : Int), T.2.2.2.1 o idx = some (.inr (k, (0, n))) →
  (k = 0 → Jvm.Cond.constant (nm o) idx (Int32.ofInt n) ∈ G) ∧ (k = 1 → Jvm.Cond.constantLong (nm o) idx (Int64.ofInt n) ∈ G)
def rx_acOK (G : List Jvm.Cond) : Prop := Jvm.Cond.arrayClass .int ∈ G ∧ Jvm.Cond.arrayClass .boolean ∈ G ∧ Jvm.Cond.arrayClass .long ∈ G
/-- what the script is, for a frame that may read it -/
def rx_Scr (lw : Bool) (A : Nat → Prop) (s : State) (xa : Nat → Nat) (H0 : Heap) (r : Nat → Int) : Prop := lw = true → ∃ (L : Nat) (xs : Nat → Int32), va_X (xa 0) L xs s H0 ∧ xa 0 < H0.size ∧ ¬ A (xa 0) ∧ r 1 = (L : Int) ∧ ∀ j : Nat, j < 6 → r (2 + j) = (xs j).toInt
section RXT
variable {p : Program} {l : Launch} {e : Env} {R : Room} {s : State} {m : MethodId} {args : Array Value} {below : List Frame} {meth : Method} {c : Code} {Q : State → Prop}
variable {D : va_G} {cl : List vw_C} {A : Nat → Prop} {xa : Nat → Nat} {H0 H : Heap} {locs : List Loc} {ls : Array Slot} {r : Nat → Int} {ad : Nat → Nat}
variable {z : rx_Z} {zs : List rx_Z} {G NW : List Jvm.Cond} {AO : List String} {PX : State → Prop} {T : rx_Tb} {M : rx_Mt} {nm : Nat → String}
theorem rx_Fok_of (hF : rx_Fr G NW AO PX p s m args meth c M) (hn : nm M.1 = M.2.2.2.2.1.cls) (hT : rx_frOK G NW cl nm T) {idx : Nat} {q : rx_Q} (hq : T.1 M.1 idx = some q) : rx_Fok s args G M.2.2.2.2.1.cls cl idx q := by
  obtain ⟨C, F, N, ty, h1, h2, h3, h4, h5, h6, h7, h8, h9⟩ := hT M.1 idx q hq
  rw [hn] at h8 h9
  refine ⟨C, F, N, ty, h1, h2, h3, h4, h5, h6, h7, h8, ?_⟩
  rcases h9 with ⟨k1, k2⟩ | ⟨k1, host, k2⟩
  · exact Or.inl ⟨k1, hF.2.2.2.2.2.2.1 _ k2⟩
  · exact Or.inr ⟨k1, host, va_Nw.use rfl (hF.2.2.2.2.2.2.2.1 _ k2)⟩
theorem rx_Nok_of (hF : rx_Fr G NW AO PX p s m args meth c M) (hn : nm M.1 = M.2.2.2.2.1.cls) (hT : rx_crOK G cl nm T) {idx : Nat} {q : Nat × List Nat} (hq : T.2.1 M.1 idx = some q) : rx_Nok s args G M.2.2.2.2.1.cls cl idx q := by
  obtain ⟨C, F, N, ty, h1, h2, h3, h4, h5, h6, h7, h8⟩ := hT M.1 idx q hq
  rw [hn] at h6
  exact ⟨C, F, N, ty, h1, h2, h3, h4, h5, hF.2.2.2.2.2.2.1 _ h6, hF.2.2.2.2.2.2.1 _ h7, hF.2.2.2.2.2.2.1 _ h8⟩
theorem rx_Ook_of (hF : rx_Fr G NW AO PX p s m args meth c M) (hn : nm M.1 = M.2.2.2.2.1.cls) (hT : rx_arOK G AO cl nm T) {idx ci : Nat} (hq : T.2.2.1 M.1 idx = some ci) : rx_Ook s args M.2.2.2.2.1.cls cl idx ci := by
  obtain ⟨C, F, N, h1, h2, h3⟩ := hT M.1 idx ci hq
  rw [hn] at h2
  exact ⟨C, F, N, h1, hF.2.2.2.2.2.2.1 _ h2, hF.2.2.2.2.2.2.2.2.1 _ h3⟩
set_option maxHeartbeats 4000000 in
theorem rx_step_ok {lw : Bool} {i : Instr} {len : Nat} (hF : rx_Fr G NW AO PX p s m args meth c M) (hn : nm M.1 = M.2.2.2.2.1.cls) (t1 : rx_frOK G NW cl nm T) (t2 : rx_crOK G cl nm T) (t3 : rx_arOK G AO cl nm T) (t4 : rx_kcOK G nm T) (t5 : rx_acOK G)
    (hA : ∀ q, H0.size ≤ q → A q) (hmc : M.2.2.2.2.2.2.1 ≤ R.cells) (hms : M.2.2.2.2.2.2.2 ≤ R.slots) (hscr : rx_Scr lw A s xa H0 r) (hdg : decode M.2.1 (rx_zpc z) = .ok (i, len))
    (hR : rx_R D cl A s xa M.2.2.1 H0 z r ad H locs ls) (hz : rx_step T lw M i len (decode M.2.1 (rx_zpc z + 1)) z = some zs)
    (K : ∀ z' ∈ zs, rx_G p l e R s m args below meth c Q D cl A xa M.2.2.1 H0 z.1.length z.2.2.1.length r ad z') : W p l e R s m args below meth c H locs z.2.2.2.1 z.2.2.2.2.1 Q (F0 m (rx_zpc z) ls ((rx_zst z).map (rx_iv r ad xa))) := by
  obtain ⟨hx, hb, hr, hml, hown, hlk, hts, hnw, hao, hpx, hini⟩ := id hF
  cases i with
  | iconst n =>
    obtain ⟨hl, hz⟩ := rx_ifn hz
    subst hl
    exact rx_h_push_ok hR hz (rx_n_iv hR.1 n) (rx_sc0 hR 0 n) (fun k => lv_iconst hx hb hdg rfl k) K
  | bipush n =>
    obtain ⟨hl, hz⟩ := rx_ifn hz
    subst hl
    exact rx_h_push_ok hR hz (by rw [rx_n_iv hR.1, Int32.ofInt_toInt]) (rx_sc0 hR 0 _) (fun k => lv_bipush hx hb hdg rfl k) K
  | sipush n =>
    obtain ⟨hl, hz⟩ := rx_ifn hz
    subst hl
    exact rx_h_push_ok hR hz (by rw [rx_n_iv hR.1, Int32.ofInt_toInt]) (rx_sc0 hR 0 _) (fun k => lv_sipush hx hb hdg rfl k) K
  | lconst n =>
    obtain ⟨hl, hz⟩ := rx_ifn hz
    subst hl
    exact rx_h_push_ok hR hz (rx_nL_iv hR.1 _) (rx_sc0 hR 1 _) (fun k => lv_lconst hx hb hdg (by rw [← Int64.ofInt_eq_ofNat]) k) K
  | aconst_null =>
    obtain ⟨hl, hz⟩ := rx_ifn hz
    subst hl
    exact rx_h_push_ok hR hz rfl trivial (fun k => lv_null hx hb hdg k) K
  | ldc idx =>
    obtain ⟨hl, hz⟩ := rx_ifn hz
    subst hl
    have hz : rx_h_const T.2.2.2.1 M.1 idx 0 2 z = some zs := hz
    unfold rx_h_const at hz
    split at hz
    · rename_i k n hk
      obtain ⟨hk0, hz⟩ := rx_ifn hz
      subst hk0
      have hw := (t4 M.1 idx _ n hk).1 rfl
      rw [hn] at hw
      exact rx_h_push_ok hR hz (rx_n_iv hR.1 n) (rx_sc0 hR 0 n) (fun k => lv_ldc hx hb hown (hts _ hw) hdg k) K
    · cases hz
  | ldc_w idx =>
    obtain ⟨hl, hz⟩ := rx_ifn hz
    subst hl
    have hz : rx_h_const T.2.2.2.1 M.1 idx 0 3 z = some zs := hz
    unfold rx_h_const at hz
    split at hz
    · rename_i k n hk
      obtain ⟨hk0, hz⟩ := rx_ifn hz
      subst hk0
      have hw := (t4 M.1 idx _ n hk).1 rfl
      rw [hn] at hw
      exact rx_h_push_ok hR hz (rx_n_iv hR.1 n) (rx_sc0 hR 0 n) (fun k => lv_ldcw hx hb hown (hts _ hw) hdg k) K
    · cases hz
  | ldc2_w idx =>
    obtain ⟨hl, hz⟩ := rx_ifn hz
    subst hl
    have hz : rx_h_const T.2.2.2.1 M.1 idx 1 3 z = some zs := hz
    unfold rx_h_const at hz
    split at hz
    · rename_i k n hk
      obtain ⟨hk0, hz⟩ := rx_ifn hz
      subst hk0
      have hw := (t4 M.1 idx _ n hk).2 rfl
      rw [hn] at hw
      exact rx_h_push_ok hR hz (rx_nL_iv hR.1 n) (rx_sc0 hR 1 n) (fun k => lv_ldc2 hx hb hown (hts _ hw) hdg k) K
    · cases hz
  | iload_n k =>
    obtain ⟨hl, hz⟩ := rx_ifn hz
    subst hl
    exact rx_h_load_ok hR hz (fun e0 h k => lv_iload_n hx hb hdg rfl h k) K
  | iload k =>
    obtain ⟨hl, hz⟩ := rx_ifn hz
    subst hl
    exact rx_h_load_ok hR hz (fun e0 h k => lv_iload hx hb hdg h k) K
  | lload_n k =>
    obtain ⟨hl, hz⟩ := rx_ifn hz
    subst hl
    exact rx_h_load_ok hR hz (fun e0 h k => lv_lload_n hx hb hdg rfl h k) K
  | lload k =>
    obtain ⟨hl, hz⟩ := rx_ifn hz
    subst hl
    exact rx_h_load_ok hR hz (fun e0 h k => lv_lload hx hb hdg h k) K
  | aload_n k =>
    obtain ⟨hl, hz⟩ := rx_ifn hz
    subst hl
    exact rx_h_loadA_ok hR hz (fun h k => lv_aload_nN hx hb hdg rfl h k) (fun a h k => lv_aload_n hx hb hdg rfl h k) K
  | aload k =>
    obtain ⟨hl, hz⟩ := rx_ifn hz
    subst hl
    exact rx_h_loadA_ok hR hz (fun h k => lv_aloadN hx hb hdg h k) (fun a h k => lv_aload hx hb hdg h k) K
  | istore_n k =>
    obtain ⟨hl, hz⟩ := rx_ifn hz
    subst hl
    exact rx_h_istore_ok hR hz (fun x rest h k => lv_istore_n hx hb hdg rfl (rx_lvh hR) h rfl k) K
  | istore k =>
    obtain ⟨hl, hz⟩ := rx_ifn hz
    subst hl
    exact rx_h_istore_ok hR hz (fun x rest h k => lv_istore hx hb hdg (rx_lvh hR) h rfl k) K
  | lstore_n k =>
    obtain ⟨hl, hz⟩ := rx_ifn hz
    subst hl
    exact rx_h_lstore_ok hR hz (fun x rest h k => lv_lstore_n hx hb hdg rfl (rx_lvh hR) h rfl k) K
  | lstore k =>
    obtain ⟨hl, hz⟩ := rx_ifn hz
    subst hl
    exact rx_h_lstore_ok hR hz (fun x rest h k => lv_lstore hx hb hdg (rx_lvh hR) h rfl k) K
  | astore_n k =>
    obtain ⟨hl, hz⟩ := rx_ifn hz
    subst hl
    refine rx_h_astore_ok hR hz (fun o rest h k => ?_) K
    cases o with
    | none => exact lv_astore_nN hx hb hdg rfl (rx_lvh hR) h rfl k
    | some a => exact lv_astore_n hx hb hdg rfl (rx_lvh hR) h rfl k
  | astore k =>
    obtain ⟨hl, hz⟩ := rx_ifn hz
    subst hl
    refine rx_h_astore_ok hR hz (fun o rest h k => ?_) K
    cases o with
    | none => exact lv_astoreN hx hb hdg (rx_lvh hR) h rfl k
    | some a => exact lv_astore hx hb hdg (rx_lvh hR) h rfl k
  | iinc k n =>
    obtain ⟨hl, hz⟩ := rx_ifn hz
    subst hl
    exact rx_h_iinc_ok hR hz (fun x v j h1 h2 h3 k => lv_iinc hx hb hdg (rx_lvh hR) h2 h3 h1 rfl k) K
  | iadd =>
    obtain ⟨hl, hz⟩ := rx_ifn hz
    subst hl
    exact rx_h_bin_ok hR hz (fun a b t _ k => lv_iadd hx hb hdg k) K
  | isub =>
    obtain ⟨hl, hz⟩ := rx_ifn hz
    subst hl
    exact rx_h_bin_ok hR hz (fun a b t _ k => lv_isub hx hb hdg k) K
  | imul =>
    obtain ⟨hl, hz⟩ := rx_ifn hz
    subst hl
    exact rx_h_bin_ok hR hz (fun a b t _ k => lv_imul hx hb hdg k) K
  | idiv =>
    obtain ⟨hl, hz⟩ := rx_ifn hz
    subst hl
    exact rx_h_div_ok hR hz (fun x y t h k => lv_idiv hx hb hdg h k) K
  | irem =>
    obtain ⟨hl, hz⟩ := rx_ifn hz
    subst hl
    exact rx_h_div_ok hR hz (fun x y t h k => lv_irem hx hb hdg h k) K
  | iand =>
    obtain ⟨hl, hz⟩ := rx_ifn hz
    subst hl
    exact rx_h_bin_ok hR hz (fun a b t _ k => lv_iand hx hb hdg k) K
  | ior =>
    obtain ⟨hl, hz⟩ := rx_ifn hz
    subst hl
    exact rx_h_bin_ok hR hz (fun a b t _ k => lv_ior hx hb hdg k) K
  | ixor =>
    obtain ⟨hl, hz⟩ := rx_ifn hz
    subst hl
    exact rx_h_bin_ok hR hz (fun a b t _ k => lv_ixor hx hb hdg k) K
  | ishl =>
    obtain ⟨hl, hz⟩ := rx_ifn hz
    subst hl
    exact rx_h_bin_ok hR hz (fun a b t _ k => lv_ishl hx hb hdg k) K
  | ishr =>
    obtain ⟨hl, hz⟩ := rx_ifn hz
    subst hl
    exact rx_h_bin_ok hR hz (fun a b t _ k => lv_ishr hx hb hdg k) K
  | iushr =>
    obtain ⟨hl, hz⟩ := rx_ifn hz
    subst hl
    exact rx_h_bin_ok hR hz (fun a b t _ k => lv_iushr hx hb hdg rfl k) K
  | ineg =>
    obtain ⟨hl, hz⟩ := rx_ifn hz
    subst hl
    exact rx_h_ineg_ok hR hz (fun x t k => lv_ineg hx hb hdg k) K
  | ladd =>
    obtain ⟨hl, hz⟩ := rx_ifn hz
    subst hl
    exact rx_h_binL_ok hR hz (fun a b t _ k => lv_ladd hx hb hdg k) K
  | lsub =>
    obtain ⟨hl, hz⟩ := rx_ifn hz
    subst hl
    exact rx_h_binL_ok hR hz (fun a b t _ k => lv_lsub hx hb hdg k) K
  | lmul =>
    obtain ⟨hl, hz⟩ := rx_ifn hz
    subst hl
    exact rx_h_binL_ok hR hz (fun a b t _ k => lv_lmul hx hb hdg k) K
  | ldiv =>
    obtain ⟨hl, hz⟩ := rx_ifn hz
    subst hl
    exact rx_h_divL_ok hR hz (fun x y t h k => lv_ldiv hx hb hdg h k) K
  | lrem =>
    obtain ⟨hl, hz⟩ := rx_ifn hz
    subst hl
    exact rx_h_divL_ok hR hz (fun x y t h k => lv_lrem hx hb hdg h k) K
  | i2l =>
    obtain ⟨hl, hz⟩ := rx_ifn hz
    subst hl
    exact rx_h_i2l_ok hR hz (fun x t k => lv_i2l hx hb hdg rfl k) K
  | lcmp =>
    obtain ⟨hl, hz⟩ := rx_ifn hz
    subst hl
    exact rx_h_lcmp_ok hx hb hdg hR hz K
  | ifCond cnd off =>
    obtain ⟨hl, hz⟩ := rx_ifn hz
    subst hl
    exact rx_h_if_ok hx hb hdg hR hz K
  | if_icmp cnd off =>
    obtain ⟨hl, hz⟩ := rx_ifn hz
    subst hl
    exact rx_h_icmp_ok hx hb hdg hR hz K
  | goto off =>
    obtain ⟨hl, hz⟩ := rx_ifn hz
    subst hl
    exact rx_h_goto_ok hx hb hdg hR hz K
  | tableswitch dflt lo hi offs =>
    have hz : rx_h_table dflt lo hi offs z = some zs := hz
    exact rx_h_table_ok hx hb hdg hR hz K
  | dup =>
    obtain ⟨hl, hz⟩ := rx_ifn hz
    subst hl
    exact rx_h_dup_ok hR hz (fun v t h k => lv_dup hx hb hdg h k) K
  | dup2 =>
    obtain ⟨hl, hz⟩ := rx_ifn hz
    subst hl
    exact rx_h_dup2_ok hR hz (fun v t h k => lv_dup2_2 hx hb hdg h k) (fun v w t h1 h2 k => lv_dup2_11 hx hb hdg h1 h2 k) K
  | pop =>
    obtain ⟨hl, hz⟩ := rx_ifn hz
    subst hl
    exact rx_h_pop_ok hR hz (fun v t h k => lv_pop hx hb hdg h k) K
  | getfield idx =>
    obtain ⟨hl, hz⟩ := rx_ifn hz
    subst hl
    exact rx_h_get_ok hx hb hts hown (fun q hq => rx_Fok_of hF hn t1 hq) hdg hR hz K
  | putfield idx =>
    obtain ⟨hl, hz⟩ := rx_ifn hz
    subst hl
    exact rx_h_put_ok hx hb hts hown hini (fun q hq => rx_Fok_of hF hn t1 hq) hdg hR hz K
  | arraylength =>
    obtain ⟨hl, hz1⟩ := rx_if_ok hz
    rw [Bool.and_eq_true, Bool.or_eq_true] at hl
    obtain ⟨hl, hlw⟩ := hl
    have hl := beq_iff_eq.mp hl
    subst hl
    by_cases hlw2 : lw = true
    · obtain ⟨L, xs, hX, hbl, hbA, hrL, -⟩ := hscr hlw2
      exact rx_alen_ok (b := r) (bs := 0) (L := L) (xs := xs) hx hb hdg hR hz1 (fun _ _ _ => ⟨hX, hbl, hbA, hrL⟩) K
    · refine rx_alen_ok (b := r) (bs := 0) (L := 0) (xs := fun _ => 0) hx hb hdg hR hz1 (fun _ t ht => ?_) K
      obtain ⟨n, hn2⟩ := ht
      rcases hlw with h | h
      · exact absurd h hlw2
      · unfold rx_topc at h
        rw [hn2] at h
        exact absurd (show false = true from h) Bool.false_ne_true
  | iaload =>
    obtain ⟨hl, hz⟩ := rx_ifn hz
    subst hl
    rcases rx_or_ok hz with hz | hz
    · exact rx_iald hx hb hdg hR hz K
    · obtain ⟨hlw, hz⟩ := rx_if_ok hz
      obtain ⟨L, xs, hX, hbl, hbA, hrL, hrx⟩ := hscr hlw
      exact rx_h_sld_ok hx hb hX hbl hbA hrL hrx hdg hR hz K
  | baload =>
    obtain ⟨hl, hz⟩ := rx_ifn hz
    subst hl
    exact rx_zald hx hb hdg hR hz K
  | laload =>
    obtain ⟨hl, hz⟩ := rx_ifn hz
    subst hl
    exact rx_lald hx hb hdg hR hz K
  | aaload =>
    obtain ⟨hl, hz⟩ := rx_ifn hz
    subst hl
    exact rx_aald hx hb hdg hR hz K
  | iastore =>
    obtain ⟨hl, hz⟩ := rx_ifn hz
    subst hl
    exact rx_iast hx hb hdg hR hz K
  | bastore =>
    obtain ⟨hl, hz⟩ := rx_ifn hz
    subst hl
    exact rx_zast hx hb hdg hR hz K
  | lastore =>
    obtain ⟨hl, hz⟩ := rx_ifn hz
    subst hl
    exact rx_last hx hb hdg hR hz K
  | aastore =>
    obtain ⟨hl, hz⟩ := rx_ifn hz
    subst hl
    exact rx_aast hx hb hdg hR hz K
  | new idx =>
    obtain ⟨hl, hz⟩ := rx_ifn hz
    subst hl
    exact rx_h_new_ok hx hb hts hown hA hmc hms (fun q hq => rx_Nok_of hF hn t2 hq) hdg hR hz K
  | newarray a =>
    obtain ⟨hl, hz⟩ := rx_ifn hz
    subst hl
    have harr : (Jvm.Cond.arrayClass (newarray.typeOf a)).before args s = true := by
      have hz : rx_h_newa M.2.2.2.2.2.2.1 M.2.2.2.2.2.2.2 a z = some zs := hz
      unfold rx_h_newa at hz
      split at hz
      · rename_i ee t tc he htc
        cases a with
        | int => exact hts _ t5.1
        | boolean => exact hts _ t5.2.1
        | long => exact hts _ t5.2.2
        | char => cases htc
        | float => cases htc
        | double => cases htc
        | byte => cases htc
        | short => cases htc
      · cases hz
    exact rx_h_newa_ok hx hb harr hA hmc hms hdg hR hz K
  | anewarray idx =>
    obtain ⟨hl, hz⟩ := rx_ifn hz
    subst hl
    exact rx_h_newq_ok hx hb hown hA hmc hms (fun ci hq => rx_Ook_of hF hn t3 hq) hdg hR hz K
  | _ => exact absurd (show (none : Option (List rx_Z)) = some zs from hz) (fun q => by cases q)
end RXT
end
section
/-! A REFLECTED MACHINE, part 11: calls, and whole runs -/
abbrev rx_End : Type := rx_I × rx_F × List rx_C × Option rx_V
def rx_bind {α β : Type} (g : α → Option (List β)) : List α → Option (List β)
  | [] => some []
  | a :: l => match g a with
    | none => none
    | some x => match rx_bind g l with
      | none => none
      | some y => some (x ++ y)
theorem rx_bind_ok {α β : Type} {g : α → Option (List β)} : ∀ {l : List α} {ys : List β}, rx_bind g l = some ys → ∀ a ∈ l, ∃ xs, g a = some xs ∧ ∀ x ∈ xs, x ∈ ys
  | [], _, _, a, ha => absurd ha List.not_mem_nil
  | b :: l, ys, h, a, ha => by
    rw [rx_bind] at h
    split at h
    · cases h
    · rename_i x hx
      split at h
      · cases h
      · rename_i y hy
        cases h
        rcases List.mem_cons.mp ha with e | e
        · subst e
          exact ⟨x, hx, fun w hw => List.mem_append_left _ hw⟩
        · obtain ⟨xs, h1, h2⟩ := rx_bind_ok hy a e
          exact ⟨xs, h1, fun w hw => List.mem_append_right _ (h2 w hw)⟩
def rx_cats : List rx_V → Nat
  | [] => 0
  | v :: l => (if rx_k2 v then 2 else 1) + rx_cats l
def rx_largs : Nat → List rx_V → List (Nat × rx_V)
  | _, [] => []
  | i, v :: l => (i, v) :: rx_largs (if rx_k2 v then i + 2 else i + 1) l
theorem rx_cats_sum {r : Nat → Int} {ad xa : Nat → Nat} : ∀ (t : List rx_V), ((t.map (rx_iv r ad xa)).map fun v => v.category).sum = rx_cats t
  | [] => rfl
  | v :: t => by
    rw [List.map_cons, List.map_cons, List.sum_cons, rx_cats_sum t, rx_cats]
    cases h : rx_k2 v with
    | true => rw [rx_cat2 h, if_pos rfl]
    | false => rw [rx_cat h, if_neg Bool.false_ne_true]
theorem rx_cats_sl {r : Nat → Int} {ad xa : Nat → Nat} : ∀ (t : List rx_V), (lg_sl (t.map (rx_iv r ad xa))).length = rx_cats t
  | [] => rfl
  | v :: t => by
    have ih := rx_cats_sl (r := r) (ad := ad) (xa := xa) t
    rw [List.map_cons, rx_cats]
    unfold lg_sl at ih ⊢
    rw [List.flatMap_cons, List.length_append, ih]
    cases h : rx_k2 v with
    | true => rw [if_pos (rx_cat2 h), if_pos rfl]; rfl
    | false => rw [if_neg (by rw [rx_cat h]; exact Nat.succ_ne_self 1 ∘ Eq.symm), if_neg Bool.false_ne_true]; rfl
theorem rx_largs_lv {r : Nat → Int} {ad xa : Nat → Nat} : ∀ (t : List rx_V) (i : Nat), rx_lvs r ad xa (rx_largs i t) = lv_args i (t.map (rx_iv r ad xa))
  | [], _ => rfl
  | v :: t, i => by
    rw [List.map_cons, rx_largs, lv_args]
    show (i, rx_iv r ad xa v) :: rx_lvs r ad xa (rx_largs _ t) = _
    rw [rx_largs_lv t]
    cases h : rx_k2 v with
    | true => rw [if_pos (rx_cat2 h), if_pos rfl]
    | false => rw [if_neg Bool.false_ne_true, if_neg (by rw [rx_cat h]; exact Nat.succ_ne_self 1 ∘ Eq.symm)]
theorem rx_largs_mem : ∀ {t : List rx_V} {i : Nat} {q : Nat × rx_V}, q ∈ rx_largs i t → q.2 ∈ t
  | [], _, _, h => absurd h List.not_mem_nil
  | v :: t, i, q, h => by
    rw [rx_largs] at h
    rcases List.mem_cons.mp h with e | e
    · subst e; exact List.mem_cons_self
    · exact List.mem_cons_of_mem _ (rx_largs_mem e)
/-- the uppermost n, the last one first pushed; and the rest -/
def rx_take : Nat → List rx_V → List rx_V → Option (List rx_V × List rx_V)
  | 0, acc, t => some (acc, t)
  | n + 1, acc, t => match t with
    | [] => none
    | v :: t2 => rx_take n (v :: acc) t2
theorem rx_take_ok : ∀ {n : Nat} {acc t as rest : List rx_V}, rx_take n acc t = some (as, rest) → as.length = n + acc.length ∧ acc.reverse ++ t = as.reverse ++ rest
  | 0, acc, t, as, rest, h => by
    rw [rx_take] at h
    cases h
    exact ⟨(Nat.zero_add _).symm, rfl⟩
  | n + 1, acc, [], as, rest, h => absurd (show (none : Option (List rx_V × List rx_V)) = some (as, rest) from h) (fun q => by cases q)
  | n + 1, acc, v :: t2, as, rest, h => by
    have h : rx_take n (v :: acc) t2 = some (as, rest) := h
    obtain ⟨h1, h2⟩ := rx_take_ok h
    refine ⟨by rw [h1, List.length_cons]; omega, ?_⟩
    rw [← h2, List.reverse_cons, List.append_assoc]
    rfl
def rx_cidx (i : Instr) : Option (Nat × Nat) := match i with
  | .invokevirtual idx => some (0, idx)
  | .invokestatic idx => some (1, idx)
  | .invokespecial idx => some (2, idx)
  | _ => none
/-- a receiver of a class -/
def rx_rcv (ht : List rx_C) (ci : Nat) (t : List rx_V) : Option (Nat × List rx_V) := match rx_pr t with
  | some (some k, t2) => match ht[k]? with
    | some (.inl (ci', _)) => rx_if (ci' == ci) (some (k, t2))
    | _ => none
  | _ => none
def rx_z0 (z : rx_Z) (as : List rx_V) : rx_Z := match z with
  | (I0, F1, ht0, _, _, _, _, _) => (I0, F1, ht0, 0, 0, 0, rx_largs 0 as, [])
/-- may a call be: room, frame -/
def rx_may (M M' : rx_Mt) (z : rx_Z) (as t : List rx_V) : Bool :=
  decide (rx_cats t ≤ 8) && (decide (rx_cats as ≤ M'.2.2.1) && (decide (M'.2.2.1 ≤ 21) && (decide (z.2.2.2.1 + M'.2.2.2.2.2.2.1 ≤ M.2.2.2.2.2.2.1) && decide (z.2.2.2.2.1 + M'.2.2.2.2.2.2.2 ≤ M.2.2.2.2.2.2.2))))
/-- the callee, what it is given, what stays; for an object's method the receiver is the first -/
def rx_prep (T : rx_Tb) (M : rx_Mt) (i : Instr) (len : Nat) (z : rx_Z) : Option (rx_J × rx_Mt × List rx_V × List rx_V) := match rx_cidx i with
  | none => none
  | some (op, idx) => match T.2.2.2.2.1 M.1 idx with
    | none => none
    | some q => match T.2.2.2.2.2 q.2.2.2, rx_take q.2.1 [] (rx_zst z) with
      | some M', some (as, t) => rx_if (len == 3 && (q.1 % 3 == op && decide (q.1 < 6))) (
        if op = 1 then rx_if (rx_may M M' z as t) (some (q, M', as, t))
        else match rx_rcv z.2.2.1 q.2.2.1 t with
          | some (k, t2) => rx_if (rx_may M M' z (.inl (some k) :: as) t2) (some (q, M', .inl (some k) :: as, t2))
          | none => none)
      | _, _ => none
def rx_back (M' : rx_Mt) (z : rx_Z) (t : List rx_V) (E : rx_End) : rx_Z := match z, E with
  | (_, _, _, c0, s0, pc0, lv0, _), (I0, F1, ht0, v0) => (I0, F1, ht0, c0 + M'.2.2.2.2.2.2.1, s0 + M'.2.2.2.2.2.2.2, pc0 + 3, lv0, v0.toList ++ t)
def rx_retk (M : rx_Mt) (i : Instr) (len : Nat) (z : rx_Z) : Option rx_End :=
  rx_if (len == 1 && (decide (z.2.2.2.1 ≤ M.2.2.2.2.2.2.1) && decide (z.2.2.2.2.1 ≤ M.2.2.2.2.2.2.2))) (match i with
    | .ireturn => (match rx_zst z with
      | [.inr (0, e)] => (match M.2.2.2.1 with
        | some .int => some (z.1, z.2.1, z.2.2.1, some (.inr (0, e)))
        | some .boolean => rx_if (rx_in01 z.1 e) (some (z.1, z.2.1, z.2.2.1, some (.inr (0, e))))
        | _ => none)
      | _ => none)
    | .lreturn => (match rx_zst z with
      | [.inr (1, e)] => (match M.2.2.2.1 with
        | some .long => some (z.1, z.2.1, z.2.2.1, some (.inr (1, e)))
        | _ => none)
      | _ => none)
    | .areturn => (match rx_zst z with
      | [.inl o] => (match M.2.2.2.1 with
        | some (.object _) => some (z.1, z.2.1, z.2.2.1, some (.inl o))
        | some (.array _) => some (z.1, z.2.1, z.2.2.1, some (.inl o))
        | _ => none)
      | _ => none)
    | .return_ => (match rx_zst z with
      | [] => (match M.2.2.2.1 with
        | none => some (z.1, z.2.1, z.2.2.1, none)
        | _ => none)
      | _ => none)
    | _ => none)
abbrev rx_Xh : Type := Nat → rx_Mt → Instr → Nat → rx_Z → Option (List rx_Z)
def rx_exec (xh : rx_Xh) (T : rx_Tb) : Nat → Nat → Bool → rx_Mt → rx_Z → Option (List rx_End)
  | 0, _, _, _, _ => none
  | f + 1, d, lw, M, z => match decode M.2.1 (rx_zpc z) with
    | .error _ => none
    | .ok (i, len) => match rx_retk M i len z with
      | some E => some [E]
      | none => match rx_or (xh d M i len z) (rx_step T lw M i len (decode M.2.1 (rx_zpc z + 1)) z) with
        | some zs => rx_bind (rx_exec xh T f d lw M) zs
        | none => match d with
          | 0 => none
          | d' + 1 => match rx_prep T M i len z with
            | none => none
            | some (_, M', as, t) => match rx_exec xh T f d' false M' (rx_z0 z as) with
              | none => none
              | some Es => rx_bind (fun E => rx_exec xh T f (d' + 1) lw M (rx_back M' z t E)) Es
/-- methods of the tables -/
def rx_mlOK (G : List Jvm.Cond) (nm : Nat → String) (T : rx_Tb) : Prop := ∀ (j : Nat) (M : rx_Mt), T.2.2.2.2.2 j = some M →
  nm M.1 = M.2.2.2.2.1.cls ∧ Jvm.Cond.code M.2.2.2.2.1 M.2.1 M.2.2.1 M.2.2.2.1 ∈ G ∧ plainName M.2.2.2.2.1.cls = true ∧ Jvm.Cond.initialized M.2.2.2.2.1.cls ∈ G ∧ (M.2.2.2.2.1.cls ≠ "java/lang/invoke/MethodHandle" ∧ M.2.2.2.2.1.cls ≠ "java/lang/invoke/VarHandle") ∧ (M.2.2.2.2.2.1 = true → M.2.2.2.2.1.name = "<init>")
def rx_cjOK (G NW : List Jvm.Cond) (cl : List vw_C) (nm : Nat → String) (T : rx_Tb) : Prop := ∀ (o idx : Nat) (q : rx_J) (M : rx_Mt), T.2.2.2.2.1 o idx = some q → T.2.2.2.2.2 q.2.2.2 = some M →
  (parseMethodDescriptor M.2.2.2.2.1.desc).map (fun d => d.parameters.length) = some q.2.1 ∧
  (q.1 < 3 → Jvm.Cond.methodLink (nm o) idx M.2.2.2.2.1 ∈ G) ∧ (3 ≤ q.1 → ∃ host : String, Jvm.Cond.methodLinkNest (nm o) idx M.2.2.2.2.1 host ∈ NW) ∧
  (q.1 % 3 = 1 → Jvm.Cond.static M.2.2.2.2.1 ∈ G) ∧ (q.1 % 3 ≠ 1 → Jvm.Cond.instanceMethod M.2.2.2.2.1 ∈ G ∧ ∃ (F : u_T) (N : Nat), cl[q.2.2.1]? = some (M.2.2.2.2.1.cls, F, N)) ∧ (q.1 % 3 = 0 → Jvm.Cond.selects M.2.2.2.2.1.cls M.2.2.2.2.1 M.2.2.2.2.1 ∈ G) ∧ (q.1 % 3 = 2 → M.2.2.2.2.1.name = "<init>" ∧ M.2.2.2.1 = none)
/-- the world without its history -/
def rx_W0 (D : va_G) (cl : List vw_C) (A : Nat → Prop) (s : State) (xa : Nat → Nat) (N : Nat) (ht : List rx_C) (r : Nat → Int) (ad : Nat → Nat) (H : Heap) : Prop :=
  ∃ (ws : va_W) (tys : List (ClassId × FieldType)), va_K D cl tys s ∧ va_P D cl ws H ∧ va_D A ws ∧ ws.length = ht.length ∧
    ∀ (k : Nat) (x : rx_C), ht[k]? = some x → rx_csc N ht.length x ∧ ∃ e : va_E, ws[k]? = some (ad k, e) ∧ rx_cell cl tys r ad xa x e
theorem rx_W.to0 {D : va_G} {cl : List vw_C} {A : Nat → Prop} {s : State} {xa : Nat → Nat} {N : Nat} {ht : List rx_C} {r : Nat → Int} {ad : Nat → Nat} {H0 H : Heap} {locs : List Loc} (h : rx_W D cl A s xa N ht r ad H0 H locs) : rx_W0 D cl A s xa N ht r ad H ∧ va_S A H0 H locs := by
  obtain ⟨ws, tys, hK, hP, hD, hS, hl, hc⟩ := h
  exact ⟨⟨ws, tys, hK, hP, hD, hl, hc⟩, hS⟩
theorem rx_W0.to {D : va_G} {cl : List vw_C} {A : Nat → Prop} {s : State} {xa : Nat → Nat} {N : Nat} {ht : List rx_C} {r : Nat → Int} {ad : Nat → Nat} {H0 H : Heap} {locs : List Loc} (h : rx_W0 D cl A s xa N ht r ad H) (hS : va_S A H0 H locs) : rx_W D cl A s xa N ht r ad H0 H locs := by
  obtain ⟨ws, tys, hK, hP, hD, hl, hc⟩ := h
  exact ⟨ws, tys, hK, hP, hD, hS, hl, hc⟩
theorem rx_W0.moved {D : va_G} {cl : List vw_C} {A : Nat → Prop} {s U : State} {xa : Nat → Nat} {N : Nat} {ht : List rx_C} {r : Nat → Int} {ad : Nat → Nat} {H : Heap} (h : rx_W0 D cl A s xa N ht r ad H) (hvm : s.vm.Alike U.vm) : rx_W0 D cl A U xa N ht r ad H := by
  obtain ⟨ws, tys, hK, hP, hD, hl, hc⟩ := h
  exact ⟨ws, tys, va_K.moved hvm hK, hP, hD, hl, hc⟩
/-- what holds at an end -/
def rx_RE (D : va_G) (cl : List vw_C) (A : Nat → Prop) (s : State) (xa : Nat → Nat) (E : rx_End) (r : Nat → Int) (ad : Nat → Nat) (H : Heap) : Prop :=
  rx_sat E.1 r ∧ rx_facts E.2.1 r ∧ rx_fsc E.1.length E.2.1 ∧ rx_W0 D cl A s xa E.1.length E.2.2.1 r ad H ∧ ∀ v, E.2.2.2 = some v → rx_sc E.1.length E.2.2.1.length v
/-- a return instruction that fits an end -/
def rx_rti (M : rx_Mt) (pc : Nat) (r : Nat → Int) (ad xa : Nat → Nat) (v : Option rx_V) : Prop := match v with
  | none => decode M.2.1 pc = .ok (.return_, 1) ∧ M.2.2.2.1 = none
  | some (.inr (0, e)) => decode M.2.1 pc = .ok (.ireturn, 1) ∧ ∃ ty, M.2.2.2.1 = some ty ∧ narrow ty (rx_iv r ad xa (.inr (0, e))) = rx_iv r ad xa (.inr (0, e))
  | some (.inr (1, _)) => decode M.2.1 pc = .ok (.lreturn, 1) ∧ M.2.2.2.1 = some .long
  | some (.inr (_ + 2, _)) => False
  | some (.inl _) => decode M.2.1 pc = .ok (.areturn, 1) ∧ ∃ ty, M.2.2.2.1 = some ty ∧ ((∃ n, ty = .object n) ∨ ∃ t, ty = .array t)
theorem rx_retk_ok {M : rx_Mt} {i : Instr} {len : Nat} {z : rx_Z} {E : rx_End} {r : Nat → Int} {ad xa : Nat → Nat} (hs : rx_sat z.1 r) (h : rx_retk M i len z = some E) (hdg : decode M.2.1 (rx_zpc z) = .ok (i, len)) : E.1 = z.1 ∧ E.2.1 = z.2.1 ∧ E.2.2.1 = z.2.2.1 ∧ rx_zst z = E.2.2.2.toList ∧ z.2.2.2.1 ≤ M.2.2.2.2.2.2.1 ∧ z.2.2.2.2.1 ≤ M.2.2.2.2.2.2.2 ∧ rx_rti M (rx_zpc z) r ad xa E.2.2.2 := by
  unfold rx_retk at h
  obtain ⟨h1, h2⟩ := rx_if_ok h
  rw [Bool.and_eq_true, Bool.and_eq_true, beq_iff_eq, decide_eq_true_eq, decide_eq_true_eq] at h1
  obtain ⟨hl, hc, hsl⟩ := h1
  subst hl
  split at h2
  · split at h2
    · rename_i e hst
      split at h2
      · rename_i hret
        cases h2
        exact ⟨rfl, rfl, rfl, hst, hc, hsl, hdg, .int, hret, rfl⟩
      · rename_i hret
        obtain ⟨h01, h2⟩ := rx_if_ok h2
        cases h2
        refine ⟨rfl, rfl, rfl, hst, hc, hsl, hdg, .boolean, hret, ?_⟩
        exact (rx_fit_ok (tc := 1) (ty := .boolean) (v := .inr (0, e)) hs h01 rfl).1
      · cases h2
    · cases h2
  · split at h2
    · rename_i e hst
      split at h2
      · rename_i hret
        cases h2
        exact ⟨rfl, rfl, rfl, hst, hc, hsl, hdg, hret⟩
      · cases h2
    · cases h2
  · split at h2
    · rename_i o hst
      split at h2
      · rename_i n hret
        cases h2
        exact ⟨rfl, rfl, rfl, hst, hc, hsl, hdg, _, hret, Or.inl ⟨n, rfl⟩⟩
      · rename_i n hret
        cases h2
        exact ⟨rfl, rfl, rfl, hst, hc, hsl, hdg, _, hret, Or.inr ⟨n, rfl⟩⟩
      · cases h2
    · cases h2
  · split at h2
    · rename_i hst
      split at h2
      · rename_i hret
        cases h2
        exact ⟨rfl, rfl, rfl, hst, hc, hsl, hdg, hret⟩
      · cases h2
    · cases h2
  · cases h2
section RXC
variable {p : Program} {l : Launch} {e : Env} {R : Room} {s : State} {m : MethodId} {args : Array Value} {below : List Frame} {meth : Method} {c : Code} {H : Heap} {locs : List Loc} {cells slots : Nat} {Q : State → Prop}
variable {pc : Nat} {ls : Array Slot} {rest st0 : List Value} {A : Nat → Prop} {H0 : Heap} {mc ms : Nat}
theorem rx_call {Qa : State → Outcome → State → Prop} (hr : va_Run p l e R s m args below meth c H locs cells slots mc ms (F0 m pc ls st0) rest Qa A) (hS : va_S A H0 H locs) (hQ : ∀ st oc t, Qa st oc t → va_F A st t)
    (kk : ∀ (v : Option Value) (st t : State) (H1 : Heap) (locs1 : List Loc), t.heap = H1 → st.heap = H → s.vm.Alike t.vm → Qa st (.returned v) t → va_S A H0 H1 locs1 → W p l e R s m args below meth c H1 locs1 (cells + mc) (slots + ms) Q (F0 m (pc + 3) ls (v.toList ++ rest))) : W p l e R s m args below meth c H locs cells slots Q (F0 m pc ls st0) := by
  intro T hT X
  obtain ⟨v, st₀, t, T', L, h0, X', hL, e1, e2, hq, st⟩ := hr T hT X
  obtain ⟨hz, hk⟩ := hQ _ _ _ hq
  rw [h0] at hz hk
  obtain ⟨t2, a1, b1⟩ := kk v st₀ t T'.heap (locs ++ L) e1.symm h0 (by rw [← e2]; exact X'.warmed.alike) hq
    ⟨Nat.le_trans hS.1 (by rw [e1]; exact hz), fun q h1 h2 => by rw [e1, hk q (Nat.lt_of_lt_of_le h1 hS.1) h2]; exact hS.2.1 q h1 h2, fun q hq => by
      rcases List.mem_append.mp hq with h | h
      · exact hS.2.2 q h
      · exact hL q h⟩ T' rfl X'
  exact ⟨t2, st t2 a1, b1⟩
end RXC

section RXV
variable {G NW : List Jvm.Cond} {AO : List String} {cl : List vw_C} {T : rx_Tb} {nm : Nat → String} {xh : rx_Xh}
/-- what a method is given -/
def rx_Pre (NW : List Jvm.Cond) (AO : List String) (PX : State → Prop) (D : va_G) (cl : List vw_C) (A : Nat → Prop) (xa : Nat → Nat) (z : rx_Z) (r : Nat → Int) (ad : Nat → Nat) (U : State) : Prop :=
  (∀ w ∈ NW, va_Nw w U) ∧ (∀ C ∈ AO, va_AO C U) ∧ PX U ∧ rx_W0 D cl A U xa z.1.length z.2.2.1 r ad U.heap ∧ ∀ q, U.heap.size ≤ q → A q
/-- what a method answers -/
def rx_Post (D : va_G) (cl : List vw_C) (A : Nat → Prop) (xa : Nat → Nat) (N M : Nat) (r : Nat → Int) (ad : Nat → Nat) (Es : List rx_End) : Array Value → State → Outcome → State → Prop := fun _ st oc t =>
  (∃ E ∈ Es, ∃ (r' : Nat → Int) (ad' : Nat → Nat), N ≤ E.1.length ∧ M ≤ E.2.2.1.length ∧ rx_same N r r' ∧ rx_sameA M ad ad' ∧ rx_RE D cl A t xa E r' ad' t.heap ∧ oc = .returned (E.2.2.2.map (rx_iv r' ad' xa))) ∧ va_F A st t
/-- a run's ends lead to what is wanted -/
def rx_Goal (f d : Nat) (lw : Bool) (xh : rx_Xh) (T : rx_Tb) (G NW : List Jvm.Cond) (AO : List String) (cl : List vw_C) (nm : Nat → String) (A : Nat → Prop) (xa : Nat → Nat) (PX : State → Prop) (l : Launch) (D : va_G) : Prop :=
  ∀ (M : rx_Mt) (z : rx_Z) (Es : List rx_End), rx_exec xh T f d lw M z = some Es → nm M.1 = M.2.2.2.2.1.cls →
  ∀ {p : Program} {e : Env} {R : Room} {s : State} {m : MethodId} {args : Array Value} {below : List Frame} {meth : Method} {c : Code} {Q : State → Prop} {H0 H : Heap} {locs : List Loc} {ls : Array Slot} {r : Nat → Int} {ad : Nat → Nat},
    rx_Fr G NW AO PX p s m args meth c M → (∀ q, H0.size ≤ q → A q) → H0 = s.heap → M.2.2.2.2.2.2.1 ≤ R.cells → M.2.2.2.2.2.2.2 ≤ R.slots → d ≤ R.frames → d * 40 ≤ R.locals → rx_Scr lw A s xa H0 r → rx_R D cl A s xa M.2.2.1 H0 z r ad H locs ls →
    (∀ E ∈ Es, ∀ (r' : Nat → Int) (ad' : Nat → Nat) (H' : Heap) (locs' : List Loc) (ls' : Array Slot) (pc' k' n' : Nat), z.1.length ≤ E.1.length → z.2.2.1.length ≤ E.2.2.1.length → rx_same z.1.length r r' → rx_sameA z.2.2.1.length ad ad' → rx_RE D cl A s xa E r' ad' H' → va_S A H0 H' locs' → k' ≤ M.2.2.2.2.2.2.1 → n' ≤ M.2.2.2.2.2.2.2 → rx_rti M pc' r' ad' xa E.2.2.2 →
      W p l e R s m args below meth c H' locs' k' n' Q (F0 m pc' ls' (E.2.2.2.toList.map (rx_iv r' ad' xa)))) →
    W p l e R s m args below meth c H locs z.2.2.2.1 z.2.2.2.2.1 Q (F0 m (rx_zpc z) ls ((rx_zst z).map (rx_iv r ad xa)))
theorem rx_toList_map {r : Nat → Int} {ad xa : Nat → Nat} (v : Option rx_V) : (v.map (rx_iv r ad xa)).toList = v.toList.map (rx_iv r ad xa) := by
  cases v <;> rfl
set_option maxHeartbeats 1000000 in
/-- a method meets what its run says -/
theorem rx_met {A : Nat → Prop} {xa : Nat → Nat} {PX : State → Prop} {l : Launch} {D : va_G} {f d j : Nat} (hGG : ∀ w ∈ G, goodWord w = true) (tm : rx_mlOK G nm T) (ih : rx_Goal f d false xh T G NW AO cl nm A xa PX l D) {M' : rx_Mt} (hj : T.2.2.2.2.2 j = some M') {z : rx_Z} {as : List rx_V} {Es : List rx_End} {r : Nat → Int} {ad : Nat → Nat}
    (hex : rx_exec xh T f d false M' (rx_z0 z as) = some Es) (hsat : rx_sat z.1 r) (hfa : rx_facts z.2.1 r) (hfs : rx_fsc z.1.length z.2.1) (has : ∀ v ∈ as, rx_sc z.1.length z.2.2.1.length v) (hcats : rx_cats as ≤ M'.2.2.1) :
    Met l M'.2.2.2.2.1 (Jvm.Cond.code M'.2.2.2.2.1 M'.2.1 M'.2.2.1 M'.2.2.2.1 :: G) { frames := d, cells := M'.2.2.2.2.2.2.1, slots := M'.2.2.2.2.2.2.2, locals := d * 40 } (va_Pc (as.map (rx_iv r ad xa)) (rx_Pre NW AO PX D cl A xa z r ad)) (rx_Post D cl A xa z.1.length z.2.2.1.length r ad Es) M'.2.2.2.2.2.2.1 M'.2.2.2.2.2.2.2 A := by
  obtain ⟨m1, m2, m3, m4, m5, m6⟩ := tm j M' hj
  refine Met.ofW (cc := M'.2.1) (maxL := M'.2.2.1) (ret := M'.2.2.2.1) m3 rfl ?_
  intro p e s m args below meth c s₁ B hml hv
  obtain ⟨hargs, hnw, hao, hpx, hW0, hA⟩ := hv
  subst hargs
  have hx := B.exec
  have hb := B.bytes
  have hr := B.returns
  have hts0 := atoms_spec (ws := Jvm.Cond.code M'.2.2.2.2.1 M'.2.1 M'.2.2.1 M'.2.2.2.1 :: G) B.pre
  have hts : ∀ w ∈ G, w.before (as.map (rx_iv r ad xa)).toArray s = true := fun w hw => hts0 w (List.mem_cons_of_mem _ hw)
  have hown : s.vm.findClass M'.2.2.2.2.1.cls = some m.cls := findClass_of_methodNamed B.named
  have hlocks := B.notSynchronized
  have hname : meth.name = M'.2.2.2.2.1.name := (name_of_methodNamed B.named B.method).1
  have hF : rx_Fr G NW AO PX p s m (as.map (rx_iv r ad xa)).toArray meth c M' := ⟨hx, hb, hr, hml, hown, hlocks, hts, hnw, hao, hpx, fun hi => hname.trans (m6 hi)⟩
  have hl := lv_entry (as.map (rx_iv r ad xa)) (n := M'.2.2.1) (by rw [rx_cats_sl]; exact hcats)
  rw [lg_entry_eq]
  generalize (lg_sl (as.map (rx_iv r ad xa)) ++ List.replicate (M'.2.2.1 - (lg_sl (as.map (rx_iv r ad xa))).length) Slot.unset).toArray = ls at hl ⊢
  rw [← rx_largs_lv] at hl
  have hR0 : rx_R D cl A s xa M'.2.2.1 s.heap (rx_z0 z as) r ad s.heap [] ls :=
    ⟨hsat, hfa, hfs, hW0.to va_S.rf, hl, fun q hq => has _ (rx_largs_mem hq), fun v hv => absurd hv List.not_mem_nil⟩
  refine ih M' (rx_z0 z as) Es hex m1 hF hA rfl (Nat.le_refl _) (Nat.le_refl _) (Nat.le_refl _) (Nat.le_refl _) (fun h => absurd h Bool.false_ne_true) hR0 ?_
  intro E hE r' ad' H' locs' ls' pc' k' n' hN hM hsr hsa hRE hS hk hn hrt
  have hpost : ∀ t : State, t.heap = H' → s.WarmedH t.vm → rx_Post D cl A xa z.1.length z.2.2.1.length r ad Es (as.map (rx_iv r ad xa)).toArray s (.returned (E.2.2.2.map (rx_iv r' ad' xa))) t := by
    intro t ht hW
    refine ⟨⟨E, hE, r', ad', hN, hM, hsr, hsa, ⟨hRE.1, hRE.2.1, hRE.2.2.1, ?_, hRE.2.2.2.2⟩, rfl⟩, hS.F ht⟩
    rw [ht]
    exact hRE.2.2.2.1.moved hW.alike
  refine W.widen hk hn ?_
  obtain ⟨eI, eF, eh, v⟩ := E
  match v, hrt, hpost with
  | none, hrt, hpost => exact W.vret hx hb (hr.trans hrt.2) hpost hS.2.2 hrt.1
  | some (.inl none), hrt, hpost =>
    obtain ⟨h1, ty, h2, h3⟩ := hrt
    exact W.aret hx hb (hr.trans h2) h3 (Or.inl rfl) hpost hS.2.2 h1
  | some (.inl (some k)), hrt, hpost =>
    obtain ⟨h1, ty, h2, h3⟩ := hrt
    exact W.aret hx hb (hr.trans h2) h3 (Or.inr ⟨_, rfl⟩) hpost hS.2.2 h1
  | some (.inr (0, q)), hrt, hpost =>
    obtain ⟨h1, ty, h2, h3⟩ := hrt
    exact W.zret hx hb (hr.trans h2) h3 hpost hS.2.2 h1
  | some (.inr (1, q)), hrt, hpost => exact W.lret hx hb (hr.trans hrt.2) hpost hS.2.2 hrt.1
  | some (.inr (_ + 2, q)), hrt, hpost => exact hrt.elim
end RXV
end
section
/-! A REFLECTED MACHINE, part 12: the soundness of runs -/
/-- what goes with a start into every call -/
def rx_PXOK (NW : List Jvm.Cond) (A : Nat → Prop) (PX : State → Prop) : Prop :=
  (∀ w ∈ NW, w.onTables = true ∧ ∀ (s U : State), s.WarmedH U.vm → va_Nw w s → va_Nw w U) ∧ (∀ (U : State) (g : JFrame) (mk : MethodId) (a : Array Value), PX U → PX (U.calling g mk a)) ∧
  ∀ u U : State, PX u → u.WarmedH U.vm → (∀ a : Nat, a < u.heap.size → ¬ A a → U.heap[a]? = u.heap[a]?) → PX U
def rx_xhOK (xh : rx_Xh) (G NW : List Jvm.Cond) (AO : List String) (cl : List vw_C) (nm : Nat → String) (A : Nat → Prop) (xa : Nat → Nat) (PX : State → Prop) (l : Launch) (D : va_G) : Prop :=
  ∀ (d : Nat) (M : rx_Mt) (i : Instr) (len : Nat) (z : rx_Z) (zs : List rx_Z), xh d M i len z = some zs → nm M.1 = M.2.2.2.2.1.cls →
  ∀ {p : Program} {e : Env} {R : Room} {s : State} {m : MethodId} {args : Array Value} {below : List Frame} {meth : Method} {c : Code} {Q : State → Prop} {H0 H : Heap} {locs : List Loc} {ls : Array Slot} {r : Nat → Int} {ad : Nat → Nat},
    rx_Fr G NW AO PX p s m args meth c M → (∀ q, H0.size ≤ q → A q) → H0 = s.heap → M.2.2.2.2.2.2.1 ≤ R.cells → M.2.2.2.2.2.2.2 ≤ R.slots → d ≤ R.frames → d * 40 ≤ R.locals → decode M.2.1 (rx_zpc z) = .ok (i, len) → rx_R D cl A s xa M.2.2.1 H0 z r ad H locs ls →
    (∀ z' ∈ zs, rx_G p l e R s m args below meth c Q D cl A xa M.2.2.1 H0 z.1.length z.2.2.1.length r ad z') →
    W p l e R s m args below meth c H locs z.2.2.2.1 z.2.2.2.2.1 Q (F0 m (rx_zpc z) ls ((rx_zst z).map (rx_iv r ad xa)))
theorem rx_rcv_ok {ht : List rx_C} {ci k : Nat} {t t2 : List rx_V} (h : rx_rcv ht ci t = some (k, t2)) : t = .inl (some k) :: t2 ∧ ∃ fs, ht[k]? = some (.inl (ci, fs)) := by
  unfold rx_rcv at h
  split at h
  · rename_i k0 t0 hpr
    split at h
    · rename_i ci' fs hht
      obtain ⟨h1, h2⟩ := rx_ifn h
      cases h2
      subst h1
      exact ⟨rx_pr_ok hpr, fs, hht⟩
    · cases h
  · cases h
theorem rx_prep_ok {T : rx_Tb} {M M' : rx_Mt} {i : Instr} {len : Nat} {z : rx_Z} {q : rx_J} {as t : List rx_V} (h : rx_prep T M i len z = some (q, M', as, t)) :
    ∃ op idx, rx_cidx i = some (op, idx) ∧ len = 3 ∧ T.2.2.2.2.1 M.1 idx = some q ∧ T.2.2.2.2.2 q.2.2.2 = some M' ∧ q.1 % 3 = op ∧ q.1 < 6 ∧ rx_may M M' z as t = true ∧
      ((op = 1 ∧ as.length = q.2.1 ∧ rx_zst z = as.reverse ++ t) ∨ (op ≠ 1 ∧ ∃ (k : Nat) (as2 : List rx_V) (fs : List rx_X), as = .inl (some k) :: as2 ∧ as2.length = q.2.1 ∧ rx_zst z = as2.reverse ++ .inl (some k) :: t ∧ z.2.2.1[k]? = some (.inl (q.2.2.1, fs)))) := by
  unfold rx_prep at h
  split at h
  · cases h
  · rename_i op idx hc
    split at h
    · cases h
    · rename_i q0 hq
      split at h
      · rename_i M0 as0 t0 hM hta
        obtain ⟨h1, h2⟩ := rx_if_ok h
        rw [Bool.and_eq_true, Bool.and_eq_true, beq_iff_eq, beq_iff_eq, decide_eq_true_eq] at h1
        obtain ⟨hl, ho, h6⟩ := h1
        obtain ⟨g1, g2⟩ := rx_take_ok hta
        rw [List.length_nil, Nat.add_zero] at g1
        rw [List.reverse_nil, List.nil_append] at g2
        split at h2
        · rename_i hop
          obtain ⟨h3, h4⟩ := rx_if_ok h2
          cases h4
          exact ⟨op, idx, hc, hl, hq, hM, ho, h6, h3, Or.inl ⟨hop, g1, g2⟩⟩
        · rename_i hop
          split at h2
          · rename_i k t2 hrc
            obtain ⟨h3, h4⟩ := rx_if_ok h2
            cases h4
            obtain ⟨k1, fs, k2⟩ := rx_rcv_ok hrc
            exact ⟨op, idx, hc, hl, hq, hM, ho, h6, h3, Or.inr ⟨hop, k, as0, fs, rfl, g1, by rw [g2, k1], k2⟩⟩
          · cases h2
      · cases h
theorem rx_cidx_ok {i : Instr} {op idx : Nat} (h : rx_cidx i = some (op, idx)) : (op = 0 ∧ i = .invokevirtual idx) ∨ (op = 1 ∧ i = .invokestatic idx) ∨ (op = 2 ∧ i = .invokespecial idx) := by
  unfold rx_cidx at h
  split at h
  · cases h; exact Or.inl ⟨rfl, rfl⟩
  · cases h; exact Or.inr (Or.inl ⟨rfl, rfl⟩)
  · cases h; exact Or.inr (Or.inr ⟨rfl, rfl⟩)
  · cases h
theorem rx_Scr.to {lw : Bool} {A : Nat → Prop} {s : State} {xa : Nat → Nat} {H0 : Heap} {r r' : Nat → Int} {N : Nat} (h : rx_Scr lw A s xa H0 r) (hN : 8 ≤ N) (hr : rx_same N r r') : rx_Scr lw A s xa H0 r' := fun hl => by
  obtain ⟨L, xs, h1, h2, h3, h4, h5⟩ := h hl
  exact ⟨L, xs, h1, h2, h3, by rw [hr 1 (by omega)]; exact h4, fun j hj => by rw [hr (2 + j) (by omega)]; exact h5 j hj⟩
section RXG
variable {G NW : List Jvm.Cond} {AO : List String} {cl : List vw_C} {T : rx_Tb} {nm : Nat → String} {xh : rx_Xh}
variable {p : Program} {l : Launch} {e : Env} {R : Room} {s : State} {m : MethodId} {args : Array Value} {below : List Frame} {meth : Method} {c : Code} {Q : State → Prop}
variable {D : va_G} {A : Nat → Prop} {xa : Nat → Nat} {H0 H : Heap} {locs : List Loc} {ls : Array Slot} {r : Nat → Int} {ad : Nat → Nat} {PX : State → Prop}
theorem rx_blind {z : rx_Z} {as : List Value} (hPX : rx_PXOK NW A PX) : FrameBlind (va_Pc as (rx_Pre NW AO PX D cl A xa z r ad)) := fun a U g mk h => by
  obtain ⟨h0, h1, h2, h3, h4, h5⟩ := h
  exact ⟨h0, fun w hw => va_Nw.same (u := U) (U := U.calling g mk a) (hPX.1 w hw).1 rfl (h1 w hw), fun C hC => va_AO.moved (Vm.Alike.refl U.vm) (h2 C hC), hPX.2.1 U g mk a h3, h4.moved (U := U.calling g mk a) (Vm.Alike.refl U.vm), h5⟩
theorem rx_pre_at {z : rx_Z} {M : rx_Mt} (hPX : rx_PXOK NW A PX) (hF : rx_Fr G NW AO PX p s m args meth c M) (hA : ∀ q, H0.size ≤ q → A q) (hH0 : H0 = s.heap) (hR : rx_R D cl A s xa M.2.2.1 H0 z r ad H locs ls) (U : State) (hU : U.heap = H) (hW : s.WarmedH U.vm) : rx_Pre NW AO PX D cl A xa z r ad U := by
  obtain ⟨hW0, hS⟩ := hR.2.2.2.1.to0
  refine ⟨fun w hw => (hPX.1 w hw).2 s U hW (hF.2.2.2.2.2.2.2.1 w hw), fun C hC => va_AO.moved hW.alike (hF.2.2.2.2.2.2.2.2.1 C hC), hPX.2.2 s U hF.2.2.2.2.2.2.2.2.2.1 hW (fun a h1 h2 => ?_), ?_, fun q hq => hA q ?_⟩
  · rw [hU, ← hH0]
    exact hS.2.1 a (by rw [hH0]; exact h1) h2
  · rw [hU]
    exact hW0.moved hW.alike
  · rw [hU] at hq
    exact Nat.le_trans hS.1 hq
set_option maxHeartbeats 2000000 in
/-- a call of a method of the tables -/
theorem rx_run {f d : Nat} {M M' : rx_Mt} {i : Instr} {len : Nat} {z : rx_Z} {q : rx_J} {as t : List rx_V} {Es : List rx_End} (hGG : ∀ w ∈ G, goodWord w = true) (hPX : rx_PXOK NW A PX) (tm : rx_mlOK G nm T) (tc : rx_cjOK G NW cl nm T) (ih : rx_Goal f d false xh T G NW AO cl nm A xa PX l D) (hn : nm M.1 = M.2.2.2.2.1.cls)
    (hF : rx_Fr G NW AO PX p s m args meth c M) (hA : ∀ q, H0.size ≤ q → A q) (hH0 : H0 = s.heap) (hmc : M.2.2.2.2.2.2.1 ≤ R.cells) (hms : M.2.2.2.2.2.2.2 ≤ R.slots) (hd : d + 1 ≤ R.frames) (hdl : (d + 1) * 40 ≤ R.locals) (hR : rx_R D cl A s xa M.2.2.1 H0 z r ad H locs ls) (hdg : decode M.2.1 (rx_zpc z) = .ok (i, len))
    (hprep : rx_prep T M i len z = some (q, M', as, t)) (hex : rx_exec xh T f d false M' (rx_z0 z as) = some Es) :
    ∃ as2 : List rx_V, va_Run p l e R s m args below meth c H locs z.2.2.2.1 z.2.2.2.2.1 M'.2.2.2.2.2.2.1 M'.2.2.2.2.2.2.2 (F0 m (rx_zpc z) ls ((rx_zst z).map (rx_iv r ad xa))) (t.map (rx_iv r ad xa)) (rx_Post D cl A xa z.1.length z.2.2.1.length r ad Es (as2.map (rx_iv r ad xa)).toArray) A := by
  obtain ⟨op, idx, hci, hlen, hq, hM', hop, h6, hmay, hshape⟩ := rx_prep_ok hprep
  subst hlen
  unfold rx_may at hmay
  simp only [Bool.and_eq_true, decide_eq_true_eq] at hmay
  obtain ⟨y1, y2, y3, y4, y5⟩ := hmay
  obtain ⟨m1, m2, m3, m4, m5, m6⟩ := tm _ _ hM'
  obtain ⟨c1, c2, c3, c4, c5, c6, c7⟩ := tc _ _ _ _ hq hM'
  rw [hn] at c2 c3
  obtain ⟨hx, hb, hr, hml, hown, hlk, hts, hnw, hao, hpx, hini⟩ := id hF
  have hst := rx_stsc hR
  have has : ∀ v ∈ as, rx_sc z.1.length z.2.2.1.length v := by
    intro v hv
    rcases hshape with ⟨-, -, e1⟩ | ⟨-, k, as2, fs, e0, -, e1, -⟩
    · exact hst v (by rw [e1]; exact List.mem_append_left _ (List.mem_reverse.mpr hv))
    · rw [e0] at hv
      rcases List.mem_cons.mp hv with h | h
      · exact hst v (by rw [e1, h]; exact List.mem_append_right _ List.mem_cons_self)
      · exact hst v (by rw [e1]; exact List.mem_append_left _ (List.mem_reverse.mpr h))
  have hMet := rx_met (l := l) (D := D) (ad := ad) hGG tm ih hM' hex hR.1 hR.2.1 hR.2.2.1 has y2
  have hGI : GoodIn G (Jvm.Cond.code M'.2.2.2.2.1 M'.2.1 M'.2.2.1 M'.2.2.2.1 :: G) := fun w hw => by
    rcases List.mem_cons.mp hw with h | h
    · subst h; exact ⟨m2, good_of_word (hGG _ m2)⟩
    · exact ⟨h, good_of_word (hGG _ h)⟩
  have S : CallFix p m c M.2.1 M.2.2.1 s args G M.2.2.2.2.1.cls := ⟨hx, hb, hml, hown, hts⟩
  have hroomF : d + 1 ≤ R.frames ∧ 8 + (M'.2.2.1 + 11) + d * 40 ≤ R.locals := ⟨hd, by omega⟩
  have hdesc : ∀ sig, parseMethodDescriptor M'.2.2.2.2.1.desc = some sig → q.2.1 = sig.parameters.length := fun sig h => by
    rw [h] at c1
    exact (Option.some.inj c1).symm
  have hws : ∀ w ∈ (Jvm.Cond.code M'.2.2.2.2.1 M'.2.1 M'.2.2.1 M'.2.2.2.1 :: G), ∀ (a' : Array Value) (U : State), s.WarmedH U.vm → w.before a' U = true := pay_in hts hGI
  have hrest : 2 * (F0 m (rx_zpc z) ls ((rx_zst z).map (rx_iv r ad xa))).monitorRoom + ((t.map (rx_iv r ad xa)).map fun v => v.category).sum ≤ 8 := lv_room (by rw [rx_cats_sum]; exact y1)
  have hf : z.2.2.2.1 + M'.2.2.2.2.2.2.1 ≤ R.cells ∧ z.2.2.2.2.1 + M'.2.2.2.2.2.2.2 ≤ R.slots := ⟨Nat.le_trans y4 hmc, Nat.le_trans y5 hms⟩
  have hlsz : ls.size = M.2.2.1 := (rx_lvh hR).1
  have hpre := rx_pre_at hPX hF hA hH0 hR
  rcases hshape with ⟨ho, hlen, hstk⟩ | ⟨ho, k, as2, fs, hase, hlen, hstk, hkc⟩
  · -- static
    have hi : i = .invokestatic idx := by
      rcases rx_cidx_ok hci with ⟨h, -⟩ | ⟨-, h⟩ | ⟨h, -⟩
      · omega
      · exact h
      · omega
    subst hi
    have hstk2 : (F0 m (rx_zpc z) ls ((rx_zst z).map (rx_iv r ad xa))).stack = (as.map (rx_iv r ad xa)).reverse ++ t.map (rx_iv r ad xa) := by
      show (rx_zst z).map (rx_iv r ad xa) = _
      rw [hstk, List.map_append, List.map_reverse]
    have hlen2 : (as.map (rx_iv r ad xa)).length = q.2.1 := by rw [List.length_map]; exact hlen
    have hstat := hts _ (c4 (hop.trans ho))
    have hp : PreS s H (va_Pc (as.map (rx_iv r ad xa)) (rx_Pre NW AO PX D cl A xa z r ad)) (as.map (rx_iv r ad xa)) := ⟨rx_blind hPX, fun U hU hW => ⟨rfl, hpre U hU hW⟩⟩
    refine ⟨as, ?_⟩
    by_cases h3 : q.1 < 3
    · exact va_runS S hMet ⟨⟨rfl, rfl, hroomF.1, hroomF.2, hws, List.mem_cons_self, hts _ m2, hts _ m4, m5, hdesc, hts _ (c2 h3)⟩, hstat⟩ hp rfl hlen2 hlsz hstk2 hrest hdg hf
    · obtain ⟨host, hh⟩ := c3 (Nat.le_of_not_lt h3)
      exact va_runSN (host := host) S hMet ⟨⟨⟨rfl, rfl, hroomF.1, hroomF.2, hws, List.mem_cons_self⟩, hts _ m2, hts _ m4, m5, hdesc, va_Nw.use rfl (hnw _ hh)⟩, hstat, trivial⟩ hp rfl hlen2 hlsz hstk2 hrest hdg hf
  · -- with a receiver
    subst hase
    obtain ⟨hinm, F, N, hcl⟩ := c5 (by rw [hop]; exact ho)
    have hinst := hts _ hinm
    have hstk2 : (F0 m (rx_zpc z) ls ((rx_zst z).map (rx_iv r ad xa))).stack = (as2.map (rx_iv r ad xa)).reverse ++ .ref (ad k) :: t.map (rx_iv r ad xa) := by
      show (rx_zst z).map (rx_iv r ad xa) = _
      rw [hstk, List.map_append, List.map_reverse]
      rfl
    have hlen2 : (as2.map (rx_iv r ad xa)).length = q.2.1 := by rw [List.length_map]; exact hlen
    have hpc : ∀ U : State, U.heap = H → s.WarmedH U.vm → va_Pc ((Sum.inl (some k) :: as2).map (rx_iv r ad xa)) (rx_Pre NW AO PX D cl A xa z r ad) (Value.ref (ad k) :: as2.map (rx_iv r ad xa)).toArray U := fun U hU hW => ⟨rfl, hpre U hU hW⟩
    obtain ⟨ws, tys, hK, hP, hD, hS, hl, hc⟩ := id hR.2.2.2.1
    obtain ⟨-, e0, hw, vs, he0, -, -⟩ := hc k _ hkc
    subst he0
    have hrecv := va_recv hK hP hcl hw
    have hpV : PreV s H M'.2.2.2.2.1.cls (ad k) (va_Pc ((Sum.inl (some k) :: as2).map (rx_iv r ad xa)) (rx_Pre NW AO PX D cl A xa z r ad)) (as2.map (rx_iv r ad xa)) := ⟨rx_blind hPX, hrecv, hpc⟩
    refine ⟨Sum.inl (some k) :: as2, ?_⟩
    rcases rx_cidx_ok hci with ⟨h0, hi⟩ | ⟨h0, -⟩ | ⟨h0, hi⟩
    · subst hi
      have hsel := hts _ (c6 (hop.trans h0))
      by_cases h3 : q.1 < 3
      · exact va_runV S hMet ⟨⟨rfl, rfl, hroomF.1, hroomF.2, hws, List.mem_cons_self, hts _ m2, hts _ m4, m5, hdesc, hts _ (c2 h3)⟩, hinst, hsel⟩ hpV rfl hlen2 hlsz hstk2 hrest hdg hf
      · obtain ⟨host, hh⟩ := c3 (Nat.le_of_not_lt h3)
        exact va_runVN (host := host) S hMet ⟨⟨⟨rfl, rfl, hroomF.1, hroomF.2, hws, List.mem_cons_self⟩, hts _ m2, hts _ m4, m5, hdesc, va_Nw.use rfl (hnw _ hh)⟩, hinst, hsel⟩ hpV rfl hlen2 hlsz hstk2 hrest hdg hf
    · exact absurd h0 ho
    · subst hi
      obtain ⟨hy1, hret⟩ := c7 (hop.trans h0)
      have hpS : PreS s H (va_Pc ((Sum.inl (some k) :: as2).map (rx_iv r ad xa)) (rx_Pre NW AO PX D cl A xa z r ad)) (.ref (ad k) :: as2.map (rx_iv r ad xa)) := ⟨rx_blind hPX, hpc⟩
      have hcode2 := hts _ m2
      rw [hret] at hcode2 hMet hws
      by_cases h3 : q.1 < 3
      · exact va_runI S hMet ⟨⟨rfl, rfl, hroomF.1, hroomF.2, hws, List.mem_cons_self, hcode2, hts _ m4, m5, hdesc, hts _ (c2 h3)⟩, hy1, hinst⟩ hpS rfl hlen2 hlsz hstk2 hrest hdg hf
      · obtain ⟨host, hh⟩ := c3 (Nat.le_of_not_lt h3)
        exact va_runIN (host := host) S hMet ⟨⟨⟨rfl, rfl, hroomF.1, hroomF.2, hws, List.mem_cons_self⟩, hcode2, hts _ m4, m5, hdesc, va_Nw.use rfl (hnw _ hh)⟩, hy1, hinst⟩ hpS rfl hlen2 hlsz hstk2 hrest hdg hf
set_option maxHeartbeats 2000000 in
theorem rx_goal (hGG : ∀ w ∈ G, goodWord w = true) (hPX : rx_PXOK NW A PX) (t1 : rx_frOK G NW cl nm T) (t2 : rx_crOK G cl nm T) (t3 : rx_arOK G AO cl nm T) (t4 : rx_kcOK G nm T) (t5 : rx_acOK G) (tm : rx_mlOK G nm T) (tc : rx_cjOK G NW cl nm T) (hxh : rx_xhOK xh G NW AO cl nm A xa PX l D) : ∀ (f d : Nat) (lw : Bool), rx_Goal f d lw xh T G NW AO cl nm A xa PX l D := by
  intro f
  induction f with
  | zero =>
    intro d lw M z Es hex
    exact absurd (show (none : Option (List rx_End)) = some Es from hex) (fun q => by cases q)
  | succ f ih =>
    intro d lw M z Es hex hn p e R s m args below meth c Q H0 H locs ls r ad hF hA hH0 hmc hms hd hdl hscr hR hret
    rw [rx_exec] at hex
    split at hex
    · cases hex
    · rename_i i len hdg
      split at hex
      · rename_i E hE
        cases hex
        obtain ⟨a1, a2, a3, a4, a5, a6, a7⟩ := rx_retk_ok (r := r) (ad := ad) (xa := xa) hR.1 hE hdg
        obtain ⟨hW0, hS⟩ := hR.2.2.2.1.to0
        obtain ⟨eI, eF, eh, ev⟩ := E
        dsimp only at a1 a2 a3 a4 a7
        subst a1; subst a2; subst a3
        rw [a4]
        refine hret _ List.mem_cons_self r ad H locs ls (rx_zpc z) z.2.2.2.1 z.2.2.2.2.1 (Nat.le_refl _) (Nat.le_refl _) rx_same.rf rx_sameA.rf ⟨hR.1, hR.2.1, hR.2.2.1, hW0, fun v hv => rx_stsc hR v ?_⟩ hS a5 a6 a7
        rw [a4]
        have hv2 : ev = some v := hv
        rw [hv2]
        exact List.mem_cons_self
      · split at hex
        · rename_i zs hzs
          have K : ∀ z' ∈ zs, rx_G p l e R s m args below meth c Q D cl A xa M.2.2.1 H0 z.1.length z.2.2.1.length r ad z' := by
            intro z' hz' r' ad' H' locs' ls' hN hM hr ha hR'
            obtain ⟨xs, hx1, hx2⟩ := rx_bind_ok hex z' hz'
            exact ih d lw M z' xs hx1 hn hF hA hH0 hmc hms hd hdl (hscr.to hR.1.2.1 hr) hR' fun E hE r2 ad2 H2 locs2 ls2 pc2 k2 n2 hN2 hM2 hr2 ha2 => hret E (hx2 E hE) r2 ad2 H2 locs2 ls2 pc2 k2 n2 (Nat.le_trans hN hN2) (Nat.le_trans hM hM2) (hr.tr hr2 hN) (ha.tr ha2 hM)
          rcases rx_or_ok hzs with h | h
          · exact hxh d M i len z zs h hn hF hA hH0 hmc hms hd hdl hdg hR K
          · exact rx_step_ok hF hn t1 t2 t3 t4 t5 hA hmc hms hscr hdg hR h K
        · split at hex
          · cases hex
          · rename_i d' hno
            split at hex
            · cases hex
            · rename_i q M' as t hprep
              split at hex
              · cases hex
              · rename_i Es' hex'
                obtain ⟨as2, hrun⟩ := rx_run (l := l) (D := D) hGG hPX tm tc (ih d' false) hn hF hA hH0 hmc hms hd hdl hR hdg hprep hex'
                obtain ⟨hW0, hS⟩ := hR.2.2.2.1.to0
                refine rx_call hrun hS (fun _ _ _ h => h.2) fun v st tt H1 locs1 ht hst hvm hpost hS1 => ?_
                obtain ⟨⟨E, hE, r', ad', hN, hM, hsr, hsa, hRE, hov⟩, -⟩ := hpost
                cases hov
                obtain ⟨xs, hx1, hx2⟩ := rx_bind_ok hex E hE
                obtain ⟨b1, b2, b3, b4, b5⟩ := hRE
                rw [ht] at b4
                have b4 := b4.moved hvm.symm
                have hstz := rx_stsc hR
                have htsc : ∀ y ∈ t, rx_sc z.1.length z.2.2.1.length y := by
                  obtain ⟨op, idx, -, -, -, -, -, -, -, hsh⟩ := rx_prep_ok hprep
                  intro y hy
                  rcases hsh with ⟨-, -, e1⟩ | ⟨-, k, as3, fs, -, -, e1, -⟩
                  · exact hstz y (by rw [e1]; exact List.mem_append_right _ hy)
                  · exact hstz y (by rw [e1]; exact List.mem_append_right _ (List.mem_cons_of_mem _ hy))
                have hR' : rx_R D cl A s xa M.2.2.1 H0 (rx_back M' z t E) r' ad' H1 locs1 ls := by
                  refine ⟨b1, b2, b3, b4.to hS1, ?_, fun y hy => rx_sc.mono (rx_lvsc hR y hy) hN hM, fun y hy => ?_⟩
                  · have h := rx_lvh hR
                    show lv_has ls M.2.2.1 (rx_lvs r' ad' xa (rx_zlv z))
                    rw [rx_lvs_ext (rx_lvsc hR) hsr hsa]
                    exact h
                  · rcases List.mem_append.mp hy with h | h
                    · refine b5 y ?_
                      cases hv : E.2.2.2 with
                      | none => rw [hv] at h; exact absurd h List.not_mem_nil
                      | some w =>
                        rw [hv] at h
                        rcases List.mem_cons.mp h with h | h
                        · rw [h]
                        · exact absurd h List.not_mem_nil
                    · exact rx_sc.mono (htsc y h) hN hM
                have hgo := ih (d' + 1) lw M (rx_back M' z t E) xs hx1 hn hF hA hH0 hmc hms hd hdl (hscr.to hR.1.2.1 hsr) hR' fun E2 hE2 r2 ad2 H2 locs2 ls2 pc2 k2 n2 hN2 hM2 hr2 ha2 => hret E2 (hx2 E2 hE2) r2 ad2 H2 locs2 ls2 pc2 k2 n2 (Nat.le_trans hN hN2) (Nat.le_trans hM hM2) (hsr.tr hr2 hN) (hsa.tr ha2 hM)
                have hstk : (rx_zst (rx_back M' z t E)).map (rx_iv r' ad' xa) = (E.2.2.2.map (rx_iv r' ad' xa)).toList ++ t.map (rx_iv r ad xa) := by
                  show (E.2.2.2.toList ++ t).map (rx_iv r' ad' xa) = _
                  rw [List.map_append, rx_toList_map, rx_st_ext htsc hsr hsa]
                rw [hstk] at hgo
                exact hgo
end RXG
end
section
/-! WHAT IS NOT WALKED: Object's constructor, System.arraycopy and Arrays.fill over whole rows of ints, Math.min of known numbers, a text's constant and its length -/
def rx_x_init (z : rx_Z) : Option (List rx_Z) := match rx_pr (rx_zst z) with
  | some (some _, t) => some [rx_nx z 3 t]
  | _ => none
def rx_x_fill (d : Nat) (z : rx_Z) : Option (List rx_Z) := match rx_pi (rx_zst z) with
  | some (v, t) => match rx_pr t with
    | some (some k, t2) => match (z.2.2.1)[k]? with
      | some (.inr (tc, n, _, _)) => rx_if (tc == 0 && (decide (1 ≤ d) && (decide (rx_cats t2 ≤ 8) && decide (n < 2000000000)))) (some [rx_nxh ((z.2.2.1).set k (.inr (0, n, .inl (.inr (0, v)), []))) z 3 t2])
      | _ => none
    | _ => none
  | none => none
def rx_pt (z : rx_Z) (e : rx_E) : Option Int := match rx_bi z.1 e with
  | some (lo, hi) => if lo = hi then some lo else none
  | none => none
def rx_x_copy (d : Nat) (z : rx_Z) : Option (List rx_Z) := match rx_pi (rx_zst z) with
  | some (n, t) => match rx_pi t with
    | some (dp, t) => match rx_pr t with
      | some (some k1, t) => match rx_pi t with
        | some (sp, t) => match rx_pr t with
          | some (some k0, t) => match (z.2.2.1)[k0]?, (z.2.2.1)[k1]? with
            | some (.inr (tc0, n0, df, ov)), some (.inr (tc1, n1, _, _)) => rx_if (tc0 == 0 && (tc1 == 0 && (n0 == n1 && (rx_pt z n == some (n0 : Int) && (rx_pt z dp == some 0 && (rx_pt z sp == some 0 && (decide (1 ≤ d) && (decide (rx_cats t ≤ 8) && decide (n0 < 2000000000))))))))) (some [rx_nxh ((z.2.2.1).set k1 (.inr (0, n0, df, ov))) z 3 t])
            | _, _ => none
          | _ => none
        | none => none
      | _ => none
    | none => none
  | none => none
def rx_x_min (d : Nat) (z : rx_Z) : Option (List rx_Z) := match rx_pi (rx_zst z) with
  | some (b, t) => match rx_pi t with
    | some (a, t) => match rx_pt z a, rx_pt z b with
      | some x, some y => rx_if (decide (1 ≤ d) && decide (rx_cats t ≤ 8)) (some [rx_nx z 3 (rx_n (if x < y then x else y) :: t)])
      | _, _ => none
    | none => none
  | none => none
def rx_x_str (sl : Nat → Nat → Option Nat) (o idx : Nat) (z : rx_Z) : Option (List rx_Z) := match sl o idx with
  | some i => some [rx_nx z 2 (.inr (2, (0, (i : Int))) :: rx_zst z)]
  | none => none
def rx_x_slen (len : List Nat) (d : Nat) (z : rx_Z) : Option (List rx_Z) := match rx_zst z with
  | .inr (2, (_, i)) :: t => match len[i.toNat]? with
    | some n => rx_if (decide (1 ≤ i) && (decide (2 ≤ d) && decide (rx_cats t ≤ 8))) (some [rx_nx z 3 (rx_n (n : Int) :: t)])
    | none => none
  | _ => none
/-- the loop of image: the row goes into the images, at its place -/
def rx_isO (v : rx_X) : Option Nat := match v with
  | .inl (.inl (some b)) => some b
  | _ => none
def rx_is0 (v : rx_X) : Bool := match v with
  | .inl (.inr (0, (0, 0))) => true
  | _ => false
def rx_objOf (ht : List rx_C) (k ci : Nat) : Option (List rx_X) := match ht[k]? with
  | some (.inl (c, fs)) => if c = ci then some fs else none
  | _ => none
def rx_rowOf (ht : List rx_C) (k tc n : Nat) : Option (rx_X × List (Nat × rx_V)) := match ht[k]? with
  | some (.inr (t, m, df, ov)) => if t = tc ∧ m = n then some (df, ov) else none
  | _ => none
def rx_x_image (z : rx_Z) : Option (List rx_Z) := match z with
  | (I, F, ht, c, s, _, lv, _) => match rx_lk lv 0, rx_lk lv 1, rx_lk lv 2 with
    | some (.inl (some k)), some (.inr (0, e)), some (.inr (0, (0, 0))) => match rx_objOf ht k 12, rx_bi I e with
      | some fs, some (lo, hi) => match (fs[3]?).bind rx_isO, (fs[4]?).bind rx_isO with
        | some b, some a => match rx_rowOf ht b 0 6180, rx_rowOf ht a 0 12360 with
          | some (db, ob), some (da, oa) =>
            rx_if (rx_is0 db && (rx_is0 da && (oa.isEmpty && (decide (lo = hi) && (decide (0 ≤ lo) && (decide (lo ≤ 1) && ob.all (fun q => Nat.blt q.1 6180)))))))
              (some [(I, F, ht.set a (.inr (0, 12360, .inl (rx_n 0), ob.map (fun q => (6180 * lo.toNat + q.1, q.2)))), c, s, 54, (2, rx_n 6180) :: rx_del lv 2, [])])
          | _, _ => none
        | _, _ => none
      | _, _ => none
    | _, _, _ => none
abbrev rx_Im : Type := rx_Mt → Int → Nat → Bool
def rx_xh (xt sl : Nat → Nat → Option Nat) (len : List Nat) (im : rx_Im) : rx_Xh := fun d M i ln z => match i with
  | .ldc idx => rx_if (ln == 2) (rx_x_str sl M.1 idx z)
  | .sipush n => rx_if (ln == 3 && im M n (rx_zpc z)) (rx_x_image z)
  | .invokespecial idx => rx_if (ln == 3 && xt M.1 idx == some 10) (rx_x_init z)
  | .invokestatic idx => rx_if (ln == 3) (match xt M.1 idx with
    | some 11 => rx_x_copy d z
    | some 12 => rx_x_fill d z
    | some 13 => rx_x_min d z
    | _ => none)
  | .invokevirtual idx => rx_if (ln == 3 && xt M.1 idx == some 14) (rx_x_slen len d z)
  | _ => none
end
section
/-! A REFLECTED MACHINE: the same runs, over a table of what each place of the code does -/
abbrev rx_Act : Type := Nat → rx_Z → Option (List rx_Z)
abbrev rx_Ent : Type := rx_Act ⊕ ((rx_Z → Option rx_End) ⊕ (Nat × rx_Mt × (rx_Z → Option (List rx_V × List rx_V))))
def rx_ex2 (ct : Nat → Nat → Option rx_Ent) : Nat → Nat → Nat → rx_Z → Option (List rx_End)
  | 0, _, _, _ => none
  | f + 1, d, j, (I, F, ht, c, s, pc, lv, st) => match ct j pc with
    | none => none
    | some (.inl g) => match g d (I, F, ht, c, s, pc, lv, st) with
      | none => none
      | some zs => rx_bind (rx_ex2 ct f d j) zs
    | some (.inr (.inl g)) => match g (I, F, ht, c, s, pc, lv, st) with
      | none => none
      | some E => some [E]
    | some (.inr (.inr (j', M', g))) => match d with
      | 0 => none
      | d' + 1 => match g (I, F, ht, c, s, pc, lv, st) with
        | none => none
        | some (as, t) => match rx_ex2 ct f d' j' (I, F, ht, 0, 0, 0, rx_largs 0 as, []) with
          | none => none
          | some Es => rx_bind (fun E => rx_ex2 ct f (d' + 1) j (rx_back M' (I, F, ht, c, s, pc, lv, st) t E)) Es
def rx_entOK (xh : rx_Xh) (T : rx_Tb) (lw : Bool) (M : rx_Mt) (pc : Nat) (e : rx_Ent) : Prop :=
  ∃ (i : Instr) (len : Nat), decode M.2.1 pc = .ok (i, len) ∧ match e with
    | .inl g => ∀ (d : Nat) (I : rx_I) (F : rx_F) (ht : List rx_C) (c s : Nat) (lv : List (Nat × rx_V)) (st : List rx_V), rx_retk M i len (I, F, ht, c, s, pc, lv, st) = none ∧
        ∀ zs, g d (I, F, ht, c, s, pc, lv, st) = some zs → rx_or (xh d M i len (I, F, ht, c, s, pc, lv, st)) (rx_step T lw M i len (decode M.2.1 (pc + 1)) (I, F, ht, c, s, pc, lv, st)) = some zs
    | .inr (.inl g) => ∀ (I : rx_I) (F : rx_F) (ht : List rx_C) (c s : Nat) (lv : List (Nat × rx_V)) (st : List rx_V) (E : rx_End), g (I, F, ht, c, s, pc, lv, st) = some E → rx_retk M i len (I, F, ht, c, s, pc, lv, st) = some E
    | .inr (.inr (j', M', g)) => T.2.2.2.2.2 j' = some M' ∧ ∀ (d : Nat) (I : rx_I) (F : rx_F) (ht : List rx_C) (c s : Nat) (lv : List (Nat × rx_V)) (st : List rx_V), rx_retk M i len (I, F, ht, c, s, pc, lv, st) = none ∧
        rx_or (xh d M i len (I, F, ht, c, s, pc, lv, st)) (rx_step T lw M i len (decode M.2.1 (pc + 1)) (I, F, ht, c, s, pc, lv, st)) = none ∧
        ∀ as t, g (I, F, ht, c, s, pc, lv, st) = some (as, t) → ∃ q, rx_prep T M i len (I, F, ht, c, s, pc, lv, st) = some (q, M', as, t)
theorem rx_ex2_ok {xh : rx_Xh} {T : rx_Tb} {ct : Nat → Nat → Option rx_Ent} {mo : Nat → Option (rx_Mt × Bool)} (hct : ∀ j M lw pc e, mo j = some (M, lw) → ct j pc = some e → rx_entOK xh T lw M pc e) (hmo : ∀ j M, T.2.2.2.2.2 j = some M → mo j = some (M, false)) :
    ∀ (f d j : Nat) (M : rx_Mt) (lw : Bool) (z : rx_Z) (Es : List rx_End), mo j = some (M, lw) → rx_ex2 ct f d j z = some Es → rx_exec xh T f d lw M z = some Es := by
  intro f
  induction f with
  | zero =>
    intro d j M lw z Es _ h
    exact absurd (show (none : Option (List rx_End)) = some Es from h) (fun q => by cases q)
  | succ f ih =>
    intro d j M lw z Es hM h
    obtain ⟨I, F, ht, c, s, pc, lv, st⟩ := z
    rw [rx_ex2] at h
    rw [rx_exec]
    have hb : ∀ {α : Type} (zs : List α) (g1 g2 : α → Option (List rx_End)) (Es : List rx_End), (∀ a Es, g1 a = some Es → g2 a = some Es) → rx_bind g1 zs = some Es → rx_bind g2 zs = some Es := by
      intro α zs g1 g2 Es hg
      induction zs generalizing Es with
      | nil => exact fun h => h
      | cons a l ihl =>
        intro h
        rw [rx_bind] at h ⊢
        split at h
        · cases h
        · rename_i x hx
          split at h
          · cases h
          · rename_i y hy
            rw [hg a x hx, ihl y hy]
            exact h
    split at h
    · cases h
    · rename_i g hg
      obtain ⟨i, len, hd, hk⟩ := hct j M lw pc _ hM hg
      have hk := hk d I F ht c s lv st
      have hd2 : decode M.2.1 (rx_zpc (I, F, ht, c, s, pc, lv, st)) = .ok (i, len) := hd
      rw [hd2]
      dsimp only
      rw [hk.1]
      split at h
      · cases h
      · rename_i zs hzs
        have h3 := hk.2 zs hzs
        have h4 : rx_or (xh d M i len (I, F, ht, c, s, pc, lv, st)) (rx_step T lw M i len (decode M.2.1 (rx_zpc (I, F, ht, c, s, pc, lv, st) + 1)) (I, F, ht, c, s, pc, lv, st)) = some zs := h3
        dsimp only
        rw [h4]
        exact hb zs _ _ Es (fun a Es' h => ih d j M lw a Es' hM h) h
    · rename_i g hg
      obtain ⟨i, len, hd, hk⟩ := hct j M lw pc _ hM hg
      have hk := hk I F ht c s lv st
      have hd2 : decode M.2.1 (rx_zpc (I, F, ht, c, s, pc, lv, st)) = .ok (i, len) := hd
      rw [hd2]
      split at h
      · cases h
      · rename_i E hE
        dsimp only
        rw [hk E hE]
        exact h
    · rename_i j' M' g hg
      obtain ⟨i, len, hd, hj, hk⟩ := hct j M lw pc _ hM hg
      have hk := hk d I F ht c s lv st
      have hd2 : decode M.2.1 (rx_zpc (I, F, ht, c, s, pc, lv, st)) = .ok (i, len) := hd
      rw [hd2]
      dsimp only
      rw [hk.1]
      have h4 : rx_or (xh d M i len (I, F, ht, c, s, pc, lv, st)) (rx_step T lw M i len (decode M.2.1 (rx_zpc (I, F, ht, c, s, pc, lv, st) + 1)) (I, F, ht, c, s, pc, lv, st)) = none := hk.2.1
      dsimp only
      rw [h4]
      dsimp only
      cases d with
      | zero => cases h
      | succ d' =>
        dsimp only at h ⊢
        split at h
        · cases h
        · rename_i as t hast
          obtain ⟨q, hq⟩ := hk.2.2 as t hast
          rw [hq]
          dsimp only
          split at h
          · cases h
          · rename_i Es' hEs'
            have h5 := ih d' j' M' false _ Es' (hmo j' M' hj) hEs'
            have h6 : rx_exec xh T f d' false M' (rx_z0 (I, F, ht, c, s, pc, lv, st) as) = some Es' := h5
            rw [h6]
            dsimp only
            exact hb Es' _ _ Es (fun a Es'' h => ih (d' + 1) j M lw _ Es'' hM h) h
end
section
/-! A REFLECTED MACHINE: a run in pieces -/
theorem rx_bind_hom {α β : Type} {g1 g2 : α → Option (List β)} : ∀ {zs : List α} {Es : List β}, (∀ a Es, g1 a = some Es → g2 a = some Es) → rx_bind g1 zs = some Es → rx_bind g2 zs = some Es
  | [], _, _, h => h
  | a :: l, Es, hg, h => by
    rw [rx_bind] at h ⊢
    split at h
    · cases h
    · rename_i x hx
      split at h
      · cases h
      · rename_i y hy
        rw [hg a x hx, rx_bind_hom hg hy]
        exact h
theorem rx_ex2_succ {ct : Nat → Nat → Option rx_Ent} : ∀ (f d j : Nat) (z : rx_Z) (Es : List rx_End), rx_ex2 ct f d j z = some Es → rx_ex2 ct (f + 1) d j z = some Es := by
  intro f
  induction f with
  | zero =>
    intro d j z Es h
    exact absurd (show (none : Option (List rx_End)) = some Es from h) (fun q => by cases q)
  | succ f ih =>
    intro d j z Es h
    obtain ⟨I, F, ht, c, s, pc, lv, st⟩ := z
    rw [rx_ex2] at h ⊢
    split at h
    · cases h
    · split at h
      · cases h
      · exact rx_bind_hom (fun a Es' h => ih d j a Es' h) h
    · exact h
    · cases d with
      | zero => cases h
      | succ d' =>
        dsimp only at h ⊢
        split at h
        · cases h
        · split at h
          · cases h
          · rename_i Es' hEs'
            rw [ih d' _ _ Es' hEs']
            exact rx_bind_hom (fun a Es'' h => ih (d' + 1) j _ Es'' h) h
theorem rx_ex2_mono {ct : Nat → Nat → Option rx_Ent} {d j : Nat} {z : rx_Z} {Es : List rx_End} (f : Nat) : ∀ g, f ≤ g → rx_ex2 ct f d j z = some Es → rx_ex2 ct g d j z = some Es := by
  intro g hg h
  induction hg with
  | refl => exact h
  | step _ ih => exact rx_ex2_succ _ d j z Es ih
/-- every end of a run keeps P -/
def rx_ru (ct : Nat → Nat → Option rx_Ent) (d j : Nat) (P : rx_End → Prop) (z : rx_Z) : Prop := ∃ (f : Nat) (Es : List rx_End), rx_ex2 ct f d j z = some Es ∧ ∀ E ∈ Es, P E
theorem rx_ru_bind {ct : Nat → Nat → Option rx_Ent} {d j : Nat} {P : rx_End → Prop} : ∀ (zs : List rx_Z), (∀ z ∈ zs, rx_ru ct d j P z) → ∃ (f : Nat) (Es : List rx_End), rx_bind (rx_ex2 ct f d j) zs = some Es ∧ ∀ E ∈ Es, P E
  | [], _ => ⟨0, [], rfl, fun E h => absurd h List.not_mem_nil⟩
  | z :: zs, h => by
    obtain ⟨f1, Es1, h1, p1⟩ := h z List.mem_cons_self
    obtain ⟨f2, Es2, h2, p2⟩ := rx_ru_bind zs (fun w hw => h w (List.mem_cons_of_mem _ hw))
    refine ⟨max f1 f2, Es1 ++ Es2, ?_, fun E hE => ?_⟩
    · rw [rx_bind, rx_ex2_mono f1 _ (Nat.le_max_left _ _) h1, rx_bind_hom (fun a Es h => rx_ex2_mono f2 _ (Nat.le_max_right f1 f2) h) h2]
    · rcases List.mem_append.mp hE with h | h
      · exact p1 E h
      · exact p2 E h
/-- from a state to where the cut says; no end on the way -/
def rx_sg (ct : Nat → Nat → Option rx_Ent) (cut : Nat → Bool) : Nat → Nat → Nat → rx_Z → Option (List rx_Z)
  | 0, _, _, _ => none
  | f + 1, d, j, (I, F, ht, c, s, pc, lv, st) => match cut pc with
    | true => some [(I, F, ht, c, s, pc, lv, st)]
    | false => match ct j pc with
      | none => none
      | some (.inl g) => match g d (I, F, ht, c, s, pc, lv, st) with
        | none => none
        | some zs => rx_bind (rx_sg ct cut f d j) zs
      | some (.inr (.inl _)) => none
      | some (.inr (.inr (j', M', g))) => match d with
        | 0 => none
        | d' + 1 => match g (I, F, ht, c, s, pc, lv, st) with
          | none => none
          | some (as, t) => match rx_ex2 ct f d' j' (I, F, ht, 0, 0, 0, rx_largs 0 as, []) with
            | none => none
            | some Es => rx_bind (fun E => rx_sg ct cut f (d' + 1) j (rx_back M' (I, F, ht, c, s, pc, lv, st) t E)) Es
theorem rx_bind_mem {α β : Type} {g : α → Option (List β)} {l : List α} {ys : List β} (h : rx_bind g l = some ys) {a : α} (ha : a ∈ l) : ∃ xs, g a = some xs ∧ ∀ x ∈ xs, x ∈ ys := rx_bind_ok h a ha
theorem rx_ru_bindE {ct : Nat → Nat → Option rx_Ent} {d j : Nat} {P : rx_End → Prop} {k : rx_End → rx_Z} (Es : List rx_End) (h : ∀ E ∈ Es, rx_ru ct d j P (k E)) : ∃ (f : Nat) (Es2 : List rx_End), rx_bind (fun E => rx_ex2 ct f d j (k E)) Es = some Es2 ∧ ∀ E ∈ Es2, P E := by
  induction Es with
  | nil => exact ⟨0, [], rfl, fun E h => absurd h List.not_mem_nil⟩
  | cons z zs ih =>
    obtain ⟨f1, Es1, h1, p1⟩ := h z List.mem_cons_self
    obtain ⟨f2, Es2, h2, p2⟩ := ih (fun w hw => h w (List.mem_cons_of_mem _ hw))
    refine ⟨max f1 f2, Es1 ++ Es2, ?_, fun E hE => ?_⟩
    · rw [rx_bind, rx_ex2_mono f1 _ (Nat.le_max_left _ _) h1, rx_bind_hom (fun a Es h => rx_ex2_mono f2 _ (Nat.le_max_right f1 f2) h) h2]
    · rcases List.mem_append.mp hE with h | h
      · exact p1 E h
      · exact p2 E h
theorem rx_sg_ok {ct : Nat → Nat → Option rx_Ent} {cut : Nat → Bool} {P : rx_End → Prop} : ∀ (f d j : Nat) (z : rx_Z) (zs : List rx_Z), rx_sg ct cut f d j z = some zs → (∀ z' ∈ zs, rx_ru ct d j P z') → rx_ru ct d j P z := by
  intro f
  induction f with
  | zero =>
    intro d j z zs h
    exact absurd (show (none : Option (List rx_Z)) = some zs from h) (fun q => by cases q)
  | succ f ih =>
    intro d j z zs h hz
    obtain ⟨I, F, ht, c, s, pc, lv, st⟩ := z
    rw [rx_sg] at h
    split at h
    · cases h
      exact hz _ List.mem_cons_self
    · split at h
      · cases h
      · rename_i g hg
        split at h
        · cases h
        · rename_i zs1 hzs1
          have h1 : ∀ z' ∈ zs1, rx_ru ct d j P z' := fun z' hz' => by
            obtain ⟨xs, h2, h3⟩ := rx_bind_mem h hz'
            exact ih d j z' xs h2 fun w hw => hz w (h3 w hw)
          obtain ⟨f1, Es, h4, h5⟩ := rx_ru_bind zs1 h1
          refine ⟨f1 + 1, Es, ?_, h5⟩
          rw [rx_ex2, hg]
          dsimp only
          rw [hzs1]
          exact h4
      · cases h
      · rename_i j' M' g hg
        cases d with
        | zero => cases h
        | succ d' =>
          dsimp only at h
          split at h
          · cases h
          · rename_i as t hast
            split at h
            · cases h
            · rename_i Es' hEs'
              have h1 : ∀ E ∈ Es', rx_ru ct (d' + 1) j P (rx_back M' (I, F, ht, c, s, pc, lv, st) t E) := fun E hE => by
                obtain ⟨xs, h2, h3⟩ := rx_bind_mem h hE
                exact ih (d' + 1) j _ xs h2 fun w hw => hz w (h3 w hw)
              obtain ⟨f1, Es, h4, h5⟩ := rx_ru_bindE Es' h1
              refine ⟨max f f1 + 1, Es, ?_, h5⟩
              rw [rx_ex2, hg]
              dsimp only
              rw [hast]
              dsimp only
              rw [rx_ex2_mono f _ (Nat.le_max_left f f1) hEs']
              exact rx_bind_hom (fun a Es'' h => rx_ex2_mono f1 _ (Nat.le_max_right f f1) h) h4
end
section
/-! A REFLECTED MACHINE: what a place does, a kind each -/
/-- quicker ways to the same -/
noncomputable def rx_g {α : Type} (l : List α) : Nat → Option α := List.rec (motive := fun _ => Nat → Option α) (fun _ => none) (fun a _ ih n => Nat.rec (motive := fun _ => Option α) (some a) (fun m _ => ih m) n) l
theorem rx_g_eq {α : Type} : ∀ (l : List α) (k : Nat), rx_g l k = l[k]?
  | [], _ => rfl
  | _ :: _, 0 => rfl
  | _ :: l, k + 1 => rx_g_eq l k
noncomputable def rx_sk {α β : Type} (x : α) (l : List α) : Nat → (List α → β) → β := List.rec (motive := fun _ => Nat → (List α → β) → β) (fun _ K => K []) (fun a t ih n K => Nat.rec (motive := fun _ => β) (K (x :: t)) (fun m _ => ih m (fun t2 => K (a :: t2))) n) l
theorem rx_sk_eq {α β : Type} {x : α} : ∀ (l : List α) (k : Nat) (K : List α → β), rx_sk x l k K = K (l.set k x)
  | [], _, _ => rfl
  | _ :: _, 0, _ => rfl
  | a :: l, k + 1, K => rx_sk_eq l k (fun t => K (a :: t))
noncomputable def rx_pk {α β : Type} (x : α) (l : List α) : (List α → β) → β := List.rec (motive := fun _ => (List α → β) → β) (fun K => K [x]) (fun a _ ih K => ih (fun t => K (a :: t))) l
theorem rx_pk_eq {α β : Type} {x : α} : ∀ (l : List α) (K : List α → β), rx_pk x l K = K (l ++ [x])
  | [], _ => rfl
  | a :: l, K => rx_pk_eq l (fun t => K (a :: t))
noncomputable def rx_ln {α : Type} (l : List α) : Nat := List.rec (motive := fun _ => Nat) 0 (fun _ _ ih => Nat.succ ih) l
theorem rx_ln_eq {α : Type} : ∀ l : List α, rx_ln l = l.length
  | [] => rfl
  | _ :: l => congrArg Nat.succ (rx_ln_eq l)
noncomputable def rx_nk {β : Type} (n : Nat) (K : Nat → β) : β := Nat.rec (motive := fun _ => β) (K 0) (fun m _ => K (Nat.succ m)) n
theorem rx_nk_eq {β : Type} (n : Nat) (K : Nat → β) : rx_nk n K = K n := by
  cases n <;> rfl
noncomputable def rx_l {α : Type} (l : List (Nat × α)) (i : Nat) : Option α := List.rec (motive := fun _ => Option α) none (fun q _ ih => Bool.rec (motive := fun _ => Option α) ih (some q.2) (Nat.beq q.1 i)) l
theorem rx_l_eq {i : Nat} : ∀ l : List (Nat × rx_V), rx_l l i = rx_lk l i
  | [] => rfl
  | q :: l => by
    have ih := rx_l_eq (i := i) l
    show Bool.rec (motive := fun _ => Option rx_V) (rx_l l i) (some q.2) (Nat.beq q.1 i) = rx_lk (q :: l) i
    rw [rx_lk]
    by_cases h : q.1 = i
    · rw [if_pos h, Nat.beq_eq.mpr h]
    · rw [if_neg h, Bool.eq_false_iff.mpr fun h2 => h (Nat.beq_eq.mp h2)]
      exact ih
def rx_q_mc (mc ms : Nat) (z : rx_Z) : Bool := Nat.ble z.2.2.2.1 mc && Nat.ble z.2.2.2.2.1 ms
def rx_q_reti (mc ms : Nat) (z : rx_Z) : Option rx_End := rx_if (rx_q_mc mc ms z) (match rx_zst z with
  | [.inr (0, e)] => some (z.1, z.2.1, z.2.2.1, some (.inr (0, e)))
  | _ => none)
def rx_q_retz (mc ms : Nat) (z : rx_Z) : Option rx_End := rx_if (rx_q_mc mc ms z) (match rx_zst z with
  | [.inr (0, e)] => rx_if (rx_in01 z.1 e) (some (z.1, z.2.1, z.2.2.1, some (.inr (0, e))))
  | _ => none)
def rx_q_retl (mc ms : Nat) (z : rx_Z) : Option rx_End := rx_if (rx_q_mc mc ms z) (match rx_zst z with
  | [.inr (1, e)] => some (z.1, z.2.1, z.2.2.1, some (.inr (1, e)))
  | _ => none)
def rx_q_reta (mc ms : Nat) (z : rx_Z) : Option rx_End := rx_if (rx_q_mc mc ms z) (match rx_zst z with
  | [.inl o] => some (z.1, z.2.1, z.2.2.1, some (.inl o))
  | _ => none)
def rx_q_retv (mc ms : Nat) (z : rx_Z) : Option rx_End := rx_if (rx_q_mc mc ms z) (match rx_zst z with
  | [] => some (z.1, z.2.1, z.2.2.1, none)
  | _ => none)
def rx_q_scall (M M' : rx_Mt) (n : Nat) (z : rx_Z) : Option (List rx_V × List rx_V) := match rx_take n [] (rx_zst z) with
  | some (as, t) => rx_if (rx_may M M' z as t) (some (as, t))
  | none => none
def rx_q_if (cnd : Jvm.ClassFile.Cond) (tgt nx : Nat) (z : rx_Z) : Option (List rx_Z) := match rx_pi (rx_zst z) with
  | some (a, t) => if rx_okI z.1 a then some (rx_fork z cnd a (0, 0) tgt nx t) else none
  | none => none
def rx_q_icmp (cnd : Jvm.ClassFile.Cond) (tgt nx : Nat) (z : rx_Z) : Option (List rx_Z) := match rx_pi (rx_zst z) with
  | some (b, t) => match rx_pi t with
    | some (a, t) => if rx_okI z.1 a && rx_okI z.1 b then some (rx_fork z cnd a b tgt nx t) else none
    | none => none
  | none => none
def rx_q_lcmp (cnd : Jvm.ClassFile.Cond) (tgt nx : Nat) (z : rx_Z) : Option (List rx_Z) := match rx_pl (rx_zst z) with
  | some (b, t) => match rx_pl t with
    | some (a, t) => if rx_okL z.1 a && rx_okL z.1 b then some (rx_fork z cnd a b tgt nx t) else none
    | none => none
  | none => none
def rx_q_goto (tgt : Nat) (z : rx_Z) : Option (List rx_Z) := some [rx_jp z.1 z.2.1 z tgt (rx_zst z)]
noncomputable def rx_q_get (q : rx_Q) (z : rx_Z) : Option (List rx_Z) := match rx_pr (rx_zst z) with
  | some (some k, t) => match rx_g z.2.2.1 k with
    | some (.inl (ci, fs)) => match Nat.beq ci q.1 with
      | true => (match rx_g fs q.2.1 with
        | some (.inl v) => some [rx_nx z 3 (v :: t)]
        | _ => none)
      | false => none
    | _ => none
  | _ => none
theorem rx_beqd {α : Type} {a b : Nat} {x y : α} : (match Nat.beq a b with
    | true => x
    | false => y) = if a = b then x else y := by
  by_cases h : a = b
  · rw [if_pos h, Nat.beq_eq.mpr h]
  · rw [if_neg h, Bool.eq_false_iff.mpr fun h2 => h (Nat.beq_eq.mp h2)]
theorem rx_q_get_eq {fr : Nat → Option rx_Q} {idx : Nat} {q : rx_Q} (hq : fr idx = some q) (z : rx_Z) : rx_q_get q z = rx_h_get fr idx z := by
  unfold rx_q_get rx_h_get
  rw [hq]
  rcases rx_pr (rx_zst z) with _ | ⟨_ | k, t⟩
  · rfl
  · rfl
  · dsimp only
    rw [rx_g_eq]
    rcases (z.2.2.1)[k]? with _ | ⟨ci, fs⟩ | c
    · rfl
    · dsimp only
      rw [rx_beqd, rx_g_eq]
      rfl
    · rfl
noncomputable def rx_q_put (q : rx_Q) (ini : Bool) (z : rx_Z) : Option (List rx_Z) := match rx_pv (rx_zst z) with
  | some (v, t) => match rx_pr t with
    | some (some k, t2) => match rx_g z.2.2.1 k with
      | some (.inl (ci, fs)) => rx_if (Nat.beq ci q.1 && ((rx_g fs q.2.1).isSome && (rx_fit z.1 q.2.2.1 v && (!q.2.2.2.1 || (ini && !q.2.2.2.2))))) (rx_sk (.inl v) fs q.2.1 (fun fs2 => rx_sk (.inl (ci, fs2)) z.2.2.1 k (fun ht2 => some [rx_nxh ht2 z 3 t2])))
      | _ => none
    | _ => none
  | _ => none
theorem rx_q_put_eq {fr : Nat → Option rx_Q} {ini : Bool} {idx : Nat} {q : rx_Q} (hq : fr idx = some q) (z : rx_Z) : rx_q_put q ini z = rx_h_put fr ini idx z := by
  unfold rx_q_put rx_h_put
  rw [hq]
  rcases rx_pv (rx_zst z) with _ | ⟨v, t⟩
  · rfl
  · dsimp only
    rcases rx_pr t with _ | ⟨_ | k, t2⟩
    · rfl
    · rfl
    · dsimp only
      rw [rx_g_eq]
      rcases (z.2.2.1)[k]? with _ | ⟨ci, fs⟩ | c
      · rfl
      · dsimp only
        rw [rx_sk_eq, rx_sk_eq, rx_g_eq]
        have e : (Nat.beq ci q.1 && ((fs[q.2.1]?).isSome && (rx_fit z.1 q.2.2.1 v && (!q.2.2.2.1 || (ini && !q.2.2.2.2))))) = decide (ci = q.1 ∧ q.2.1 < fs.length ∧ rx_fit z.1 q.2.2.1 v = true ∧ (q.2.2.2.1 = false ∨ (ini = true ∧ q.2.2.2.2 = false))) := by
          rw [Bool.eq_iff_iff]
          simp
        rw [e]
        by_cases h : ci = q.1 ∧ q.2.1 < fs.length ∧ rx_fit z.1 q.2.2.1 v = true ∧ (q.2.2.2.1 = false ∨ (ini = true ∧ q.2.2.2.2 = false))
        · rw [if_pos h, decide_eq_true h]
          rfl
        · rw [if_neg h, decide_eq_false h]
          rfl
      · rfl
noncomputable def rx_q_ald (okc : Nat → Bool) (z : rx_Z) : Option (List rx_Z) := match rx_pi (rx_zst z) with
  | some (ix, t) => match rx_pr t with
    | some (some k, t2) => match rx_g z.2.2.1 k with
      | some (.inr (tc, n, df, ov)) => if okc tc then (match rx_bi z.1 ix with
        | some (lo, hi) => if 0 ≤ lo ∧ hi < (n : Int) then
            (if lo = hi then rx_pushX z (rx_gt ov df lo.toNat) t2
             else if ov.all (fun q => decide ((q.1 : Int) < lo) || decide (hi < (q.1 : Int))) then rx_pushX z df t2
             else rx_each z (rx_nm z.1 ix) df ov t2 (hi - lo + 1).toNat lo)
          else none
        | none => none) else none
      | _ => none
    | _ => none
  | none => none
theorem rx_q_ald_eq (okc : Nat → Bool) (z : rx_Z) : rx_q_ald okc z = rx_h_ald okc z := by
  unfold rx_q_ald rx_h_ald
  simp only [rx_g_eq]
  rfl
noncomputable def rx_q_ast (okc : Nat → Bool) (okv : rx_I → List rx_C → Nat → rx_V → Bool) (z : rx_Z) : Option (List rx_Z) := match rx_pv (rx_zst z) with
  | some (v, t0) => match rx_pi t0 with
    | some (ix, t) => match rx_pr t with
      | some (some k, t2) => match rx_g z.2.2.1 k with
        | some (.inr (tc, n, df, ov)) => if okc tc && okv z.1 z.2.2.1 tc v then (match rx_bi z.1 ix with
          | some (lo, hi) => if 0 ≤ lo ∧ hi < (n : Int) ∧ lo = hi then rx_sk (.inr (tc, n, df, rx_ovset ov df lo.toNat v)) z.2.2.1 k (fun ht2 => some [rx_nxh ht2 z 1 t2]) else none
          | none => none) else none
        | _ => none
      | _ => none
    | none => none
  | none => none
theorem rx_q_ast_eq (okc : Nat → Bool) (okv : rx_I → List rx_C → Nat → rx_V → Bool) (z : rx_Z) : rx_q_ast okc okv z = rx_h_ast okc okv z := by
  unfold rx_q_ast rx_h_ast
  simp only [rx_g_eq, rx_sk_eq]
  rfl
noncomputable def rx_q_nxa (x : rx_C) (n : Nat) (z : rx_Z) (d : Nat) (t : List rx_V) : Option (List rx_Z) := match z with
  | (I0, F1, ht0, c0, s0, pc0, lv0, _) => rx_pk x ht0 (fun ht1 => rx_nk (rx_ln ht0) (fun k => some [(I0, F1, ht1, c0 + 1, s0 + n, pc0 + d, lv0, .inl (some k) :: t)]))
theorem rx_q_nxa_eq (x : rx_C) (n : Nat) (z : rx_Z) (d : Nat) (t : List rx_V) : rx_q_nxa x n z d t = some [rx_nxa x n z d t] := by
  obtain ⟨I0, F1, ht0, c0, s0, pc0, lv0, st⟩ := z
  unfold rx_q_nxa
  dsimp only
  rw [rx_pk_eq, rx_nk_eq, rx_ln_eq]
  rfl
noncomputable def rx_q_new (q : Nat × List Nat) (mc ms : Nat) (z : rx_Z) : Option (List rx_Z) :=
  if z.2.2.2.1 + 1 ≤ mc ∧ z.2.2.2.2.1 + q.2.length ≤ ms then rx_q_nxa (.inl (q.1, q.2.map (fun tc => .inl (rx_dv tc)))) q.2.length z 3 (rx_zst z) else none
theorem rx_q_new_eq {cr : Nat → Option (Nat × List Nat)} {mc ms idx : Nat} {q : Nat × List Nat} (hq : cr idx = some q) (z : rx_Z) : rx_q_new q mc ms z = rx_h_new cr mc ms idx z := by
  unfold rx_q_new rx_h_new
  rw [hq, rx_q_nxa_eq]
noncomputable def rx_q_newa (mc ms tc : Nat) (z : rx_Z) : Option (List rx_Z) := match rx_pi (rx_zst z) with
  | some (e, t) => match rx_len z.1 e with
    | some n => if z.2.2.2.1 + 1 ≤ mc ∧ z.2.2.2.2.1 + n ≤ ms then rx_q_nxa (.inr (tc, n, .inl (rx_dv tc), [])) n z 2 t else none
    | none => none
  | none => none
theorem rx_q_newa_eq {mc ms tc : Nat} {a : ArrayType} (ha : rx_atc a = some tc) (z : rx_Z) : rx_q_newa mc ms tc z = rx_h_newa mc ms a z := by
  unfold rx_q_newa rx_h_newa
  rw [ha]
  simp only [rx_q_nxa_eq]
  rcases rx_pi (rx_zst z) with _ | ⟨e, t⟩ <;> rfl
noncomputable def rx_q_newq (ci mc ms : Nat) (z : rx_Z) : Option (List rx_Z) := match rx_pi (rx_zst z) with
  | some (e, t) => match rx_len z.1 e with
    | some n => if z.2.2.2.1 + 1 ≤ mc ∧ z.2.2.2.2.1 + n ≤ ms then rx_q_nxa (.inr (ci + 5, n, .inl (.inl none), [])) n z 3 t else none
    | none => none
  | none => none
theorem rx_q_newq_eq {ar : Nat → Option Nat} {mc ms idx ci : Nat} (ha : ar idx = some ci) (z : rx_Z) : rx_q_newq ci mc ms z = rx_h_newq ar mc ms idx z := by
  unfold rx_q_newq rx_h_newq
  rw [ha]
  simp only [rx_q_nxa_eq]
  rcases rx_pi (rx_zst z) with _ | ⟨e, t⟩ <;> rfl
noncomputable def rx_q_load (kd i d : Nat) (z : rx_Z) : Option (List rx_Z) := match rx_l (rx_zlv z) i with
  | some (.inr (j, e)) => match Nat.beq j kd with
    | true => some [rx_nx z d (.inr (j, e) :: rx_zst z)]
    | false => none
  | _ => none
theorem rx_q_load_eq (kd i d : Nat) (z : rx_Z) : rx_q_load kd i d z = rx_h_load kd i d z := by
  unfold rx_q_load rx_h_load
  simp only [rx_l_eq, rx_beqd]
  rfl
noncomputable def rx_q_loadA (i d : Nat) (z : rx_Z) : Option (List rx_Z) := match rx_l (rx_zlv z) i with
  | some (.inl o) => some [rx_nx z d (.inl o :: rx_zst z)]
  | some (.inr (j + 2, e)) => some [rx_nx z d (.inr (j + 2, e) :: rx_zst z)]
  | _ => none
theorem rx_q_loadA_eq (i d : Nat) (z : rx_Z) : rx_q_loadA i d z = rx_h_loadA i d z := by
  unfold rx_q_loadA rx_h_loadA
  simp only [rx_l_eq]
  rfl
noncomputable def rx_q_alen (z : rx_Z) : Option (List rx_Z) := match rx_pv (rx_zst z) with
  | some (.inl (some k), t) => match rx_g z.2.2.1 k with
    | some (.inr (_, n, _, _)) => some [rx_nx z 1 (rx_n (n : Int) :: t)]
    | _ => none
  | _ => none
theorem rx_q_alen_eq (z : rx_Z) : ∀ zs, rx_q_alen z = some zs → rx_if (rx_topc z) (rx_h_alen z) = some zs := by
  intro zs h
  unfold rx_q_alen at h
  unfold rx_topc rx_h_alen
  split at h
  · rename_i k t e
    rw [e]
    dsimp only
    rw [← rx_g_eq]
    exact h
  · cases h
noncomputable def rx_q_rcv (ht : List rx_C) (ci : Nat) (t : List rx_V) : Option (Nat × List rx_V) := match rx_pr t with
  | some (some k, t2) => match rx_g ht k with
    | some (.inl (ci', _)) => rx_if (ci' == ci) (some (k, t2))
    | _ => none
  | _ => none
theorem rx_q_rcv_eq (ht : List rx_C) (ci : Nat) (t : List rx_V) : rx_q_rcv ht ci t = rx_rcv ht ci t := by
  unfold rx_q_rcv rx_rcv
  simp only [rx_g_eq]
  rfl
noncomputable def rx_q_vcall (M M' : rx_Mt) (n ci : Nat) (z : rx_Z) : Option (List rx_V × List rx_V) := match rx_take n [] (rx_zst z) with
  | some (as, t) => match rx_q_rcv z.2.2.1 ci t with
    | some (k, t2) => rx_if (rx_may M M' z (.inl (some k) :: as) t2) (some (.inl (some k) :: as, t2))
    | none => none
  | none => none
noncomputable def rx_q_fill (d : Nat) (z : rx_Z) : Option (List rx_Z) := match rx_pi (rx_zst z) with
  | some (v, t) => match rx_pr t with
    | some (some k, t2) => match rx_g z.2.2.1 k with
      | some (.inr (tc, n, _, _)) => rx_if (tc == 0 && (decide (1 ≤ d) && (decide (rx_cats t2 ≤ 8) && decide (n < 2000000000)))) (rx_sk (.inr (0, n, .inl (.inr (0, v)), [])) z.2.2.1 k (fun h => some [rx_nxh h z 3 t2]))
      | _ => none
    | _ => none
  | none => none
theorem rx_q_fill_eq (d : Nat) (z : rx_Z) : rx_q_fill d z = rx_x_fill d z := by
  unfold rx_q_fill rx_x_fill
  simp only [rx_g_eq, rx_sk_eq]
  rfl
noncomputable def rx_q_copy (d : Nat) (z : rx_Z) : Option (List rx_Z) := match rx_pi (rx_zst z) with
  | some (n, t) => match rx_pi t with
    | some (dp, t) => match rx_pr t with
      | some (some k1, t) => match rx_pi t with
        | some (sp, t) => match rx_pr t with
          | some (some k0, t) => match rx_g z.2.2.1 k0, rx_g z.2.2.1 k1 with
            | some (.inr (tc0, n0, df, ov)), some (.inr (tc1, n1, _, _)) => rx_if (tc0 == 0 && (tc1 == 0 && (n0 == n1 && (rx_pt z n == some (n0 : Int) && (rx_pt z dp == some 0 && (rx_pt z sp == some 0 && (decide (1 ≤ d) && (decide (rx_cats t ≤ 8) && decide (n0 < 2000000000))))))))) (rx_sk (.inr (0, n0, df, ov)) z.2.2.1 k1 (fun h => some [rx_nxh h z 3 t]))
            | _, _ => none
          | _ => none
        | none => none
      | _ => none
    | none => none
  | none => none
theorem rx_q_copy_eq (d : Nat) (z : rx_Z) : rx_q_copy d z = rx_x_copy d z := by
  unfold rx_q_copy rx_x_copy
  simp only [rx_g_eq, rx_sk_eq]
  rfl
theorem rx_ifN {α : Type} (b : Bool) : rx_if b (none : Option α) = none := by
  cases b <;> rfl
section RXK
variable {T : rx_Tb} {lw : Bool} {M : rx_Mt} {pc : Nat} {xt sl : Nat → Nat → Option Nat} {ln : List Nat} {im : rx_Im}
theorem rx_k_iconst {n m : Int} (hn : n = m) (hd : decode M.2.1 pc = .ok (.iconst n, 1)) : rx_entOK (rx_xh xt sl ln im) T lw M pc (.inl (fun _ => rx_h_push (rx_n m) 1)) := by
  subst hn
  exact ⟨_, _, hd, fun _ _ _ _ _ _ _ _ => ⟨rx_ifN _, fun _ h => h⟩⟩
theorem rx_k_bipush {n m : Int} (hn : (Int8.ofInt n).toInt32.toInt = m) (hd : decode M.2.1 pc = .ok (.bipush n, 2)) : rx_entOK (rx_xh xt sl ln im) T lw M pc (.inl (fun _ => rx_h_push (rx_n m) 2)) := by
  subst hn
  exact ⟨_, _, hd, fun _ _ _ _ _ _ _ _ => ⟨rx_ifN _, fun _ h => h⟩⟩
theorem rx_k_lconst {n : Fin 2} {m : Int} (hn : ((n : Nat) : Int) = m) (hd : decode M.2.1 pc = .ok (.lconst n, 1)) : rx_entOK (rx_xh xt sl ln im) T lw M pc (.inl (fun _ => rx_h_push (.inr (1, (0, m))) 1)) := by
  subst hn
  exact ⟨_, _, hd, fun _ _ _ _ _ _ _ _ => ⟨rx_ifN _, fun _ h => h⟩⟩
theorem rx_k_null (hd : decode M.2.1 pc = .ok (.aconst_null, 1)) : rx_entOK (rx_xh xt sl ln im) T lw M pc (.inl (fun _ => rx_h_push (.inl none) 1)) := ⟨_, _, hd, fun _ _ _ _ _ _ _ _ => ⟨rx_ifN _, fun _ h => h⟩⟩
theorem rx_k_iload_n {k : Fin 4} {i : Nat} (hk : (k : Nat) = i) (hd : decode M.2.1 pc = .ok (.iload_n k, 1)) : rx_entOK (rx_xh xt sl ln im) T lw M pc (.inl (fun _ => rx_q_load 0 i 1)) := by
  subst hk
  refine ⟨_, _, hd, fun d I F ht c s lv st => ⟨rx_ifN _, fun zs h => ?_⟩⟩
  try dsimp only at h
  rw [rx_q_load_eq] at h
  exact h
theorem rx_k_iload {i : Nat} (hd : decode M.2.1 pc = .ok (.iload i, 2)) : rx_entOK (rx_xh xt sl ln im) T lw M pc (.inl (fun _ => rx_q_load 0 i 2)) := by
  refine ⟨_, _, hd, fun d I F ht c s lv st => ⟨rx_ifN _, fun zs h => ?_⟩⟩
  try dsimp only at h
  rw [rx_q_load_eq] at h
  exact h
theorem rx_k_lload_n {k : Fin 4} {i : Nat} (hk : (k : Nat) = i) (hd : decode M.2.1 pc = .ok (.lload_n k, 1)) : rx_entOK (rx_xh xt sl ln im) T lw M pc (.inl (fun _ => rx_q_load 1 i 1)) := by
  subst hk
  refine ⟨_, _, hd, fun d I F ht c s lv st => ⟨rx_ifN _, fun zs h => ?_⟩⟩
  try dsimp only at h
  rw [rx_q_load_eq] at h
  exact h
theorem rx_k_lload {i : Nat} (hd : decode M.2.1 pc = .ok (.lload i, 2)) : rx_entOK (rx_xh xt sl ln im) T lw M pc (.inl (fun _ => rx_q_load 1 i 2)) := by
  refine ⟨_, _, hd, fun d I F ht c s lv st => ⟨rx_ifN _, fun zs h => ?_⟩⟩
  try dsimp only at h
  rw [rx_q_load_eq] at h
  exact h
theorem rx_k_aload_n {k : Fin 4} {i : Nat} (hk : (k : Nat) = i) (hd : decode M.2.1 pc = .ok (.aload_n k, 1)) : rx_entOK (rx_xh xt sl ln im) T lw M pc (.inl (fun _ => rx_q_loadA i 1)) := by
  subst hk
  refine ⟨_, _, hd, fun d I F ht c s lv st => ⟨rx_ifN _, fun zs h => ?_⟩⟩
  try dsimp only at h
  rw [rx_q_loadA_eq] at h
  exact h
theorem rx_k_aload {i : Nat} (hd : decode M.2.1 pc = .ok (.aload i, 2)) : rx_entOK (rx_xh xt sl ln im) T lw M pc (.inl (fun _ => rx_q_loadA i 2)) := by
  refine ⟨_, _, hd, fun d I F ht c s lv st => ⟨rx_ifN _, fun zs h => ?_⟩⟩
  try dsimp only at h
  rw [rx_q_loadA_eq] at h
  exact h
theorem rx_k_istore_n {k : Fin 4} {i nL : Nat} (hk : (k : Nat) = i) (hL : M.2.2.1 = nL) (hd : decode M.2.1 pc = .ok (.istore_n k, 1)) : rx_entOK (rx_xh xt sl ln im) T lw M pc (.inl (fun _ => rx_h_istore nL i 1)) := by
  subst hk; subst hL
  exact ⟨_, _, hd, fun _ _ _ _ _ _ _ _ => ⟨rx_ifN _, fun _ h => h⟩⟩
theorem rx_k_istore {i nL : Nat} (hL : M.2.2.1 = nL) (hd : decode M.2.1 pc = .ok (.istore i, 2)) : rx_entOK (rx_xh xt sl ln im) T lw M pc (.inl (fun _ => rx_h_istore nL i 2)) := by
  subst hL
  exact ⟨_, _, hd, fun _ _ _ _ _ _ _ _ => ⟨rx_ifN _, fun _ h => h⟩⟩
theorem rx_k_lstore_n {k : Fin 4} {i nL : Nat} (hk : (k : Nat) = i) (hL : M.2.2.1 = nL) (hd : decode M.2.1 pc = .ok (.lstore_n k, 1)) : rx_entOK (rx_xh xt sl ln im) T lw M pc (.inl (fun _ => rx_h_lstore nL i 1)) := by
  subst hk; subst hL
  exact ⟨_, _, hd, fun _ _ _ _ _ _ _ _ => ⟨rx_ifN _, fun _ h => h⟩⟩
theorem rx_k_lstore {i nL : Nat} (hL : M.2.2.1 = nL) (hd : decode M.2.1 pc = .ok (.lstore i, 2)) : rx_entOK (rx_xh xt sl ln im) T lw M pc (.inl (fun _ => rx_h_lstore nL i 2)) := by
  subst hL
  exact ⟨_, _, hd, fun _ _ _ _ _ _ _ _ => ⟨rx_ifN _, fun _ h => h⟩⟩
theorem rx_k_astore_n {k : Fin 4} {i nL : Nat} (hk : (k : Nat) = i) (hL : M.2.2.1 = nL) (hd : decode M.2.1 pc = .ok (.astore_n k, 1)) : rx_entOK (rx_xh xt sl ln im) T lw M pc (.inl (fun _ => rx_h_astore nL i 1)) := by
  subst hk; subst hL
  exact ⟨_, _, hd, fun _ _ _ _ _ _ _ _ => ⟨rx_ifN _, fun _ h => h⟩⟩
theorem rx_k_astore {i nL : Nat} (hL : M.2.2.1 = nL) (hd : decode M.2.1 pc = .ok (.astore i, 2)) : rx_entOK (rx_xh xt sl ln im) T lw M pc (.inl (fun _ => rx_h_astore nL i 2)) := by
  subst hL
  exact ⟨_, _, hd, fun _ _ _ _ _ _ _ _ => ⟨rx_ifN _, fun _ h => h⟩⟩
theorem rx_k_iinc {i nL : Nat} {n m : Int} (hn : n = m) (hL : M.2.2.1 = nL) (hd : decode M.2.1 pc = .ok (.iinc i n, 3)) : rx_entOK (rx_xh xt sl ln im) T lw M pc (.inl (fun _ => rx_h_iinc nL i m)) := by
  subst hL; subst hn
  exact ⟨_, _, hd, fun _ _ _ _ _ _ _ _ => ⟨rx_ifN _, fun _ h => h⟩⟩
theorem rx_k_iadd (hd : decode M.2.1 pc = .ok (.iadd, 1)) : rx_entOK (rx_xh xt sl ln im) T lw M pc (.inl (fun _ => rx_h_bin 0)) := ⟨_, _, hd, fun _ _ _ _ _ _ _ _ => ⟨rx_ifN _, fun _ h => h⟩⟩
theorem rx_k_isub (hd : decode M.2.1 pc = .ok (.isub, 1)) : rx_entOK (rx_xh xt sl ln im) T lw M pc (.inl (fun _ => rx_h_bin 1)) := ⟨_, _, hd, fun _ _ _ _ _ _ _ _ => ⟨rx_ifN _, fun _ h => h⟩⟩
theorem rx_k_imul (hd : decode M.2.1 pc = .ok (.imul, 1)) : rx_entOK (rx_xh xt sl ln im) T lw M pc (.inl (fun _ => rx_h_bin 2)) := ⟨_, _, hd, fun _ _ _ _ _ _ _ _ => ⟨rx_ifN _, fun _ h => h⟩⟩
theorem rx_k_iand (hd : decode M.2.1 pc = .ok (.iand, 1)) : rx_entOK (rx_xh xt sl ln im) T lw M pc (.inl (fun _ => rx_h_bin 5)) := ⟨_, _, hd, fun _ _ _ _ _ _ _ _ => ⟨rx_ifN _, fun _ h => h⟩⟩
theorem rx_k_ior (hd : decode M.2.1 pc = .ok (.ior, 1)) : rx_entOK (rx_xh xt sl ln im) T lw M pc (.inl (fun _ => rx_h_bin 6)) := ⟨_, _, hd, fun _ _ _ _ _ _ _ _ => ⟨rx_ifN _, fun _ h => h⟩⟩
theorem rx_k_ixor (hd : decode M.2.1 pc = .ok (.ixor, 1)) : rx_entOK (rx_xh xt sl ln im) T lw M pc (.inl (fun _ => rx_h_bin 7)) := ⟨_, _, hd, fun _ _ _ _ _ _ _ _ => ⟨rx_ifN _, fun _ h => h⟩⟩
theorem rx_k_ishl (hd : decode M.2.1 pc = .ok (.ishl, 1)) : rx_entOK (rx_xh xt sl ln im) T lw M pc (.inl (fun _ => rx_h_bin 8)) := ⟨_, _, hd, fun _ _ _ _ _ _ _ _ => ⟨rx_ifN _, fun _ h => h⟩⟩
theorem rx_k_ishr (hd : decode M.2.1 pc = .ok (.ishr, 1)) : rx_entOK (rx_xh xt sl ln im) T lw M pc (.inl (fun _ => rx_h_bin 9)) := ⟨_, _, hd, fun _ _ _ _ _ _ _ _ => ⟨rx_ifN _, fun _ h => h⟩⟩
theorem rx_k_iushr (hd : decode M.2.1 pc = .ok (.iushr, 1)) : rx_entOK (rx_xh xt sl ln im) T lw M pc (.inl (fun _ => rx_h_bin 10)) := ⟨_, _, hd, fun _ _ _ _ _ _ _ _ => ⟨rx_ifN _, fun _ h => h⟩⟩
theorem rx_k_idiv (hd : decode M.2.1 pc = .ok (.idiv, 1)) : rx_entOK (rx_xh xt sl ln im) T lw M pc (.inl (fun _ => rx_h_div 3)) := ⟨_, _, hd, fun _ _ _ _ _ _ _ _ => ⟨rx_ifN _, fun _ h => h⟩⟩
theorem rx_k_irem (hd : decode M.2.1 pc = .ok (.irem, 1)) : rx_entOK (rx_xh xt sl ln im) T lw M pc (.inl (fun _ => rx_h_div 4)) := ⟨_, _, hd, fun _ _ _ _ _ _ _ _ => ⟨rx_ifN _, fun _ h => h⟩⟩
theorem rx_k_ineg (hd : decode M.2.1 pc = .ok (.ineg, 1)) : rx_entOK (rx_xh xt sl ln im) T lw M pc (.inl (fun _ => rx_h_ineg)) := ⟨_, _, hd, fun _ _ _ _ _ _ _ _ => ⟨rx_ifN _, fun _ h => h⟩⟩
theorem rx_k_ladd (hd : decode M.2.1 pc = .ok (.ladd, 1)) : rx_entOK (rx_xh xt sl ln im) T lw M pc (.inl (fun _ => rx_h_binL 0)) := ⟨_, _, hd, fun _ _ _ _ _ _ _ _ => ⟨rx_ifN _, fun _ h => h⟩⟩
theorem rx_k_lsub (hd : decode M.2.1 pc = .ok (.lsub, 1)) : rx_entOK (rx_xh xt sl ln im) T lw M pc (.inl (fun _ => rx_h_binL 1)) := ⟨_, _, hd, fun _ _ _ _ _ _ _ _ => ⟨rx_ifN _, fun _ h => h⟩⟩
theorem rx_k_lmul (hd : decode M.2.1 pc = .ok (.lmul, 1)) : rx_entOK (rx_xh xt sl ln im) T lw M pc (.inl (fun _ => rx_h_binL 2)) := ⟨_, _, hd, fun _ _ _ _ _ _ _ _ => ⟨rx_ifN _, fun _ h => h⟩⟩
theorem rx_k_ldiv (hd : decode M.2.1 pc = .ok (.ldiv, 1)) : rx_entOK (rx_xh xt sl ln im) T lw M pc (.inl (fun _ => rx_h_divL 3)) := ⟨_, _, hd, fun _ _ _ _ _ _ _ _ => ⟨rx_ifN _, fun _ h => h⟩⟩
theorem rx_k_lrem (hd : decode M.2.1 pc = .ok (.lrem, 1)) : rx_entOK (rx_xh xt sl ln im) T lw M pc (.inl (fun _ => rx_h_divL 4)) := ⟨_, _, hd, fun _ _ _ _ _ _ _ _ => ⟨rx_ifN _, fun _ h => h⟩⟩
theorem rx_k_i2l (hd : decode M.2.1 pc = .ok (.i2l, 1)) : rx_entOK (rx_xh xt sl ln im) T lw M pc (.inl (fun _ => rx_h_i2l)) := ⟨_, _, hd, fun _ _ _ _ _ _ _ _ => ⟨rx_ifN _, fun _ h => h⟩⟩
theorem rx_k_dup (hd : decode M.2.1 pc = .ok (.dup, 1)) : rx_entOK (rx_xh xt sl ln im) T lw M pc (.inl (fun _ => rx_h_dup)) := ⟨_, _, hd, fun _ _ _ _ _ _ _ _ => ⟨rx_ifN _, fun _ h => h⟩⟩
theorem rx_k_dup2 (hd : decode M.2.1 pc = .ok (.dup2, 1)) : rx_entOK (rx_xh xt sl ln im) T lw M pc (.inl (fun _ => rx_h_dup2)) := ⟨_, _, hd, fun _ _ _ _ _ _ _ _ => ⟨rx_ifN _, fun _ h => h⟩⟩
theorem rx_k_pop (hd : decode M.2.1 pc = .ok (.pop, 1)) : rx_entOK (rx_xh xt sl ln im) T lw M pc (.inl (fun _ => rx_h_pop)) := ⟨_, _, hd, fun _ _ _ _ _ _ _ _ => ⟨rx_ifN _, fun _ h => h⟩⟩
theorem rx_k_tableswitch {dflt lo hi : Int} {offs : Array Int} {len : Nat} (hd : decode M.2.1 pc = .ok (.tableswitch dflt lo hi offs, len)) : rx_entOK (rx_xh xt sl ln im) T lw M pc (.inl (fun _ => rx_h_table dflt lo hi offs)) := ⟨_, _, hd, fun _ _ _ _ _ _ _ _ => ⟨rx_ifN _, fun _ h => h⟩⟩
theorem rx_k_alenT (hw : lw = true) (hd : decode M.2.1 pc = .ok (.arraylength, 1)) : rx_entOK (rx_xh xt sl ln im) T lw M pc (.inl (fun _ => rx_h_alen)) := by
  subst hw
  exact ⟨_, _, hd, fun _ _ _ _ _ _ _ _ => ⟨rx_ifN _, fun _ h => h⟩⟩
theorem rx_k_alen (hw : lw = false) (hd : decode M.2.1 pc = .ok (.arraylength, 1)) : rx_entOK (rx_xh xt sl ln im) T lw M pc (.inl (fun _ => rx_q_alen)) := by
  subst hw
  exact ⟨_, _, hd, fun _ _ _ _ _ _ _ _ => ⟨rx_ifN _, fun zs h => rx_q_alen_eq _ zs h⟩⟩
noncomputable def rx_q_sld (z : rx_Z) : Option (List rx_Z) := rx_or (rx_q_ald (rx_isTc 0) z) (rx_h_sld z)
theorem rx_k_sld (hw : lw = true) (hd : decode M.2.1 pc = .ok (.iaload, 1)) : rx_entOK (rx_xh xt sl ln im) T lw M pc (.inl (fun _ => rx_q_sld)) := by
  subst hw
  refine ⟨_, _, hd, fun d I F ht c s lv st => ⟨rx_ifN _, fun zs h => ?_⟩⟩
  dsimp only at h
  unfold rx_q_sld at h
  rw [rx_q_ald_eq] at h
  exact h
theorem rx_k_iaload (hd : decode M.2.1 pc = .ok (.iaload, 1)) : rx_entOK (rx_xh xt sl ln im) T lw M pc (.inl (fun _ => rx_q_ald (rx_isTc 0))) := by
  refine ⟨_, _, hd, fun d I F ht c s lv st => ⟨rx_ifN _, fun zs h => ?_⟩⟩
  show rx_or (rx_h_ald (rx_isTc 0) (I, F, ht, c, s, pc, lv, st)) _ = some zs
  dsimp only at h
  rw [rx_q_ald_eq] at h
  rw [h]
  rfl
theorem rx_k_baload (hd : decode M.2.1 pc = .ok (.baload, 1)) : rx_entOK (rx_xh xt sl ln im) T lw M pc (.inl (fun _ => rx_q_ald (rx_isTc 1))) := by
  refine ⟨_, _, hd, fun d I F ht c s lv st => ⟨rx_ifN _, fun zs h => ?_⟩⟩
  try dsimp only at h
  rw [rx_q_ald_eq] at h
  exact h
theorem rx_k_laload (hd : decode M.2.1 pc = .ok (.laload, 1)) : rx_entOK (rx_xh xt sl ln im) T lw M pc (.inl (fun _ => rx_q_ald (rx_isTc 2))) := by
  refine ⟨_, _, hd, fun d I F ht c s lv st => ⟨rx_ifN _, fun zs h => ?_⟩⟩
  try dsimp only at h
  rw [rx_q_ald_eq] at h
  exact h
theorem rx_k_aaload (hd : decode M.2.1 pc = .ok (.aaload, 1)) : rx_entOK (rx_xh xt sl ln im) T lw M pc (.inl (fun _ => rx_q_ald rx_isRef)) := by
  refine ⟨_, _, hd, fun d I F ht c s lv st => ⟨rx_ifN _, fun zs h => ?_⟩⟩
  try dsimp only at h
  rw [rx_q_ald_eq] at h
  exact h
theorem rx_k_iastore (hd : decode M.2.1 pc = .ok (.iastore, 1)) : rx_entOK (rx_xh xt sl ln im) T lw M pc (.inl (fun _ => rx_q_ast (rx_isTc 0) (fun I _ _ v => rx_fit I 0 v))) := by
  refine ⟨_, _, hd, fun d I F ht c s lv st => ⟨rx_ifN _, fun zs h => ?_⟩⟩
  try dsimp only at h
  rw [rx_q_ast_eq] at h
  exact h
theorem rx_k_bastore (hd : decode M.2.1 pc = .ok (.bastore, 1)) : rx_entOK (rx_xh xt sl ln im) T lw M pc (.inl (fun _ => rx_q_ast (rx_isTc 1) (fun I _ _ v => rx_fit I 1 v))) := by
  refine ⟨_, _, hd, fun d I F ht c s lv st => ⟨rx_ifN _, fun zs h => ?_⟩⟩
  try dsimp only at h
  rw [rx_q_ast_eq] at h
  exact h
theorem rx_k_lastore (hd : decode M.2.1 pc = .ok (.lastore, 1)) : rx_entOK (rx_xh xt sl ln im) T lw M pc (.inl (fun _ => rx_q_ast (rx_isTc 2) (fun I _ _ v => rx_fit I 2 v))) := by
  refine ⟨_, _, hd, fun d I F ht c s lv st => ⟨rx_ifN _, fun zs h => ?_⟩⟩
  try dsimp only at h
  rw [rx_q_ast_eq] at h
  exact h
theorem rx_k_aastore (hd : decode M.2.1 pc = .ok (.aastore, 1)) : rx_entOK (rx_xh xt sl ln im) T lw M pc (.inl (fun _ => rx_q_ast rx_isRef rx_fitA)) := by
  refine ⟨_, _, hd, fun d I F ht c s lv st => ⟨rx_ifN _, fun zs h => ?_⟩⟩
  try dsimp only at h
  rw [rx_q_ast_eq] at h
  exact h
theorem rx_k_newarray {a : ArrayType} {mc ms tc : Nat} (ha : rx_atc a = some tc) (h1 : M.2.2.2.2.2.2.1 = mc) (h2 : M.2.2.2.2.2.2.2 = ms) (hd : decode M.2.1 pc = .ok (.newarray a, 2)) : rx_entOK (rx_xh xt sl ln im) T lw M pc (.inl (fun _ => rx_q_newa mc ms tc)) := by
  subst h1; subst h2
  refine ⟨_, _, hd, fun d I F ht c s lv st => ⟨rx_ifN _, fun zs h => ?_⟩⟩
  dsimp only at h
  rw [rx_q_newa_eq ha] at h
  exact h
theorem rx_k_ldc {idx : Nat} {v : Int} (hv : T.2.2.2.1 M.1 idx = some (.inr (0, (0, v)))) (hs : sl M.1 idx = none) (hd : decode M.2.1 pc = .ok (.ldc idx, 2)) : rx_entOK (rx_xh xt sl ln im) T lw M pc (.inl (fun _ => rx_h_push (rx_n v) 2)) := by
  refine ⟨_, _, hd, fun d I F ht c s lv st => ⟨rx_ifN _, fun zs h => ?_⟩⟩
  show rx_or (rx_x_str sl M.1 idx _) (rx_h_const T.2.2.2.1 M.1 idx 0 2 _) = some zs
  unfold rx_x_str rx_h_const
  rw [hv, hs]
  exact h
theorem rx_k_ldcw {idx : Nat} {v : Int} (hv : T.2.2.2.1 M.1 idx = some (.inr (0, (0, v)))) (hd : decode M.2.1 pc = .ok (.ldc_w idx, 3)) : rx_entOK (rx_xh xt sl ln im) T lw M pc (.inl (fun _ => rx_h_push (rx_n v) 3)) := by
  refine ⟨_, _, hd, fun d I F ht c s lv st => ⟨rx_ifN _, fun zs h => ?_⟩⟩
  show rx_h_const T.2.2.2.1 M.1 idx 0 3 _ = some zs
  unfold rx_h_const
  rw [hv]
  exact h
theorem rx_k_ldc2 {idx : Nat} {v : Int} (hv : T.2.2.2.1 M.1 idx = some (.inr (1, (0, v)))) (hd : decode M.2.1 pc = .ok (.ldc2_w idx, 3)) : rx_entOK (rx_xh xt sl ln im) T lw M pc (.inl (fun _ => rx_h_push (.inr (1, (0, v))) 3)) := by
  refine ⟨_, _, hd, fun d I F ht c s lv st => ⟨rx_ifN _, fun zs h => ?_⟩⟩
  show rx_h_const T.2.2.2.1 M.1 idx 1 3 _ = some zs
  unfold rx_h_const
  rw [hv]
  exact h
theorem rx_k_ldcS {idx n : Nat} (hs : sl M.1 idx = some n) (hd : decode M.2.1 pc = .ok (.ldc idx, 2)) : rx_entOK (rx_xh xt sl ln im) T lw M pc (.inl (fun _ => rx_h_push (.inr (2, (0, (n : Int)))) 2)) := by
  refine ⟨_, _, hd, fun d I F ht c s lv st => ⟨rx_ifN _, fun zs h => ?_⟩⟩
  show rx_or (rx_x_str sl M.1 idx _) _ = some zs
  unfold rx_x_str
  rw [hs]
  exact h
theorem rx_k_sipush {n m : Int} (hn : (Int16.ofInt n).toInt32.toInt = m) (hi : im M n pc = false) (hd : decode M.2.1 pc = .ok (.sipush n, 3)) : rx_entOK (rx_xh xt sl ln im) T lw M pc (.inl (fun _ => rx_h_push (rx_n m) 3)) := by
  subst hn
  refine ⟨_, _, hd, fun d I F ht c s lv st => ⟨rx_ifN _, fun zs h => ?_⟩⟩
  show rx_or (rx_if (im M n pc) (rx_x_image _)) _ = some zs
  rw [hi]
  exact h
theorem rx_k_image {n : Int} (hi : im M n pc = true) (hd : decode M.2.1 pc = .ok (.sipush n, 3)) : rx_entOK (rx_xh xt sl ln im) T lw M pc (.inl (fun _ => rx_x_image)) := by
  refine ⟨_, _, hd, fun d I F ht c s lv st => ⟨rx_ifN _, fun zs h => ?_⟩⟩
  show rx_or (rx_if (im M n pc) (rx_x_image _)) _ = some zs
  rw [hi]
  show rx_or (rx_x_image (I, F, ht, c, s, pc, lv, st)) _ = some zs
  try dsimp only at h
  rw [h]
  rfl
theorem rx_k_init {idx : Nat} (hx : xt M.1 idx = some 10) (hd : decode M.2.1 pc = .ok (.invokespecial idx, 3)) : rx_entOK (rx_xh xt sl ln im) T lw M pc (.inl (fun _ => rx_x_init)) := by
  refine ⟨_, _, hd, fun d I F ht c s lv st => ⟨rx_ifN _, fun zs h => ?_⟩⟩
  show rx_or (rx_if (3 == 3 && xt M.1 idx == some 10) (rx_x_init _)) _ = some zs
  rw [hx]
  show rx_or (rx_x_init (I, F, ht, c, s, pc, lv, st)) _ = some zs
  try dsimp only at h
  rw [h]
  rfl
theorem rx_k_slen {idx : Nat} (hx : xt M.1 idx = some 14) (hd : decode M.2.1 pc = .ok (.invokevirtual idx, 3)) : rx_entOK (rx_xh xt sl ln im) T lw M pc (.inl (rx_x_slen ln)) := by
  refine ⟨_, _, hd, fun d I F ht c s lv st => ⟨rx_ifN _, fun zs h => ?_⟩⟩
  show rx_or (rx_if (3 == 3 && xt M.1 idx == some 14) (rx_x_slen ln d _)) _ = some zs
  rw [hx]
  show rx_or (rx_x_slen ln d (I, F, ht, c, s, pc, lv, st)) _ = some zs
  try dsimp only at h
  rw [h]
  rfl
theorem rx_k_copy {idx : Nat} (hx : xt M.1 idx = some 11) (hd : decode M.2.1 pc = .ok (.invokestatic idx, 3)) : rx_entOK (rx_xh xt sl ln im) T lw M pc (.inl rx_q_copy) := by
  refine ⟨_, _, hd, fun d I F ht c s lv st => ⟨rx_ifN _, fun zs h => ?_⟩⟩
  have e : rx_xh xt sl ln im d M (.invokestatic idx) 3 (I, F, ht, c, s, pc, lv, st) = rx_x_copy d (I, F, ht, c, s, pc, lv, st) := by
    show (match xt M.1 idx with
      | some 11 => rx_x_copy d (I, F, ht, c, s, pc, lv, st)
      | some 12 => rx_x_fill d (I, F, ht, c, s, pc, lv, st)
      | some 13 => rx_x_min d (I, F, ht, c, s, pc, lv, st)
      | _ => none) = _
    rw [hx]
    try rfl
  rw [rx_q_copy_eq] at h
  rw [e, h]
  rfl
theorem rx_k_fill {idx : Nat} (hx : xt M.1 idx = some 12) (hd : decode M.2.1 pc = .ok (.invokestatic idx, 3)) : rx_entOK (rx_xh xt sl ln im) T lw M pc (.inl rx_q_fill) := by
  refine ⟨_, _, hd, fun d I F ht c s lv st => ⟨rx_ifN _, fun zs h => ?_⟩⟩
  have e : rx_xh xt sl ln im d M (.invokestatic idx) 3 (I, F, ht, c, s, pc, lv, st) = rx_x_fill d (I, F, ht, c, s, pc, lv, st) := by
    show (match xt M.1 idx with
      | some 11 => rx_x_copy d (I, F, ht, c, s, pc, lv, st)
      | some 12 => rx_x_fill d (I, F, ht, c, s, pc, lv, st)
      | some 13 => rx_x_min d (I, F, ht, c, s, pc, lv, st)
      | _ => none) = _
    rw [hx]
    try rfl
  rw [rx_q_fill_eq] at h
  rw [e, h]
  rfl
theorem rx_k_min {idx : Nat} (hx : xt M.1 idx = some 13) (hd : decode M.2.1 pc = .ok (.invokestatic idx, 3)) : rx_entOK (rx_xh xt sl ln im) T lw M pc (.inl rx_x_min) := by
  refine ⟨_, _, hd, fun d I F ht c s lv st => ⟨rx_ifN _, fun zs h => ?_⟩⟩
  have e : rx_xh xt sl ln im d M (.invokestatic idx) 3 (I, F, ht, c, s, pc, lv, st) = rx_x_min d (I, F, ht, c, s, pc, lv, st) := by
    show (match xt M.1 idx with
      | some 11 => rx_x_copy d (I, F, ht, c, s, pc, lv, st)
      | some 12 => rx_x_fill d (I, F, ht, c, s, pc, lv, st)
      | some 13 => rx_x_min d (I, F, ht, c, s, pc, lv, st)
      | _ => none) = _
    rw [hx]
    try rfl
  rw [e, h]
  rfl
theorem rx_k_if {cnd : Jvm.ClassFile.Cond} {off : Int} {tgt nx : Nat} (ho : rx_off pc off = some tgt) (hn : pc + 3 = nx) (hd : decode M.2.1 pc = .ok (.ifCond cnd off, 3)) : rx_entOK (rx_xh xt sl ln im) T lw M pc (.inl (fun _ => rx_q_if cnd tgt nx)) := by
  subst hn
  refine ⟨_, _, hd, fun d I F ht c s lv st => ⟨rx_ifN _, fun zs h => ?_⟩⟩
  show rx_h_if cnd off (I, F, ht, c, s, pc, lv, st) = some zs
  have ho2 : rx_off (rx_zpc (I, F, ht, c, s, pc, lv, st)) off = some tgt := ho
  have h : rx_q_if cnd tgt (pc + 3) (I, F, ht, c, s, pc, lv, st) = some zs := h
  unfold rx_q_if at h
  unfold rx_h_if
  rw [ho2]
  split at h
  · rename_i e
    rw [e]
    exact h
  · cases h
theorem rx_k_icmp {cnd : Jvm.ClassFile.Cond} {off : Int} {tgt nx : Nat} (ho : rx_off pc off = some tgt) (hn : pc + 3 = nx) (hd : decode M.2.1 pc = .ok (.if_icmp cnd off, 3)) : rx_entOK (rx_xh xt sl ln im) T lw M pc (.inl (fun _ => rx_q_icmp cnd tgt nx)) := by
  subst hn
  refine ⟨_, _, hd, fun d I F ht c s lv st => ⟨rx_ifN _, fun zs h => ?_⟩⟩
  show rx_h_icmp cnd off (I, F, ht, c, s, pc, lv, st) = some zs
  have ho2 : rx_off (rx_zpc (I, F, ht, c, s, pc, lv, st)) off = some tgt := ho
  have h : rx_q_icmp cnd tgt (pc + 3) (I, F, ht, c, s, pc, lv, st) = some zs := h
  unfold rx_q_icmp at h
  unfold rx_h_icmp
  rw [ho2]
  split at h
  · rename_i e
    rw [e]
    exact h
  · cases h
theorem rx_k_lcmp {cnd : Jvm.ClassFile.Cond} {off : Int} {tgt nx : Nat} (ho : rx_off (pc + 1) off = some tgt) (hn : pc + 4 = nx) (hd2 : decode M.2.1 (pc + 1) = .ok (.ifCond cnd off, 3)) (hd : decode M.2.1 pc = .ok (.lcmp, 1)) : rx_entOK (rx_xh xt sl ln im) T lw M pc (.inl (fun _ => rx_q_lcmp cnd tgt nx)) := by
  subst hn
  refine ⟨_, _, hd, fun d I F ht c s lv st => ⟨rx_ifN _, fun zs h => ?_⟩⟩
  show rx_h_lcmp (decode M.2.1 (pc + 1)) (I, F, ht, c, s, pc, lv, st) = some zs
  have h : rx_q_lcmp cnd tgt (pc + 4) (I, F, ht, c, s, pc, lv, st) = some zs := h
  unfold rx_q_lcmp at h
  unfold rx_h_lcmp
  rw [hd2]
  split at h
  · rename_i b t e
    rw [e]
    dsimp only
    split at h
    · rename_i a t2 e2
      rw [e2]
      show (match rx_off (pc + 1) off with
        | some tgt => if rx_okL I a && rx_okL I b then some (rx_fork (I, F, ht, c, s, pc, lv, st) cnd a b tgt (pc + 4) t2) else none
        | none => none) = some zs
      rw [ho]
      exact h
    · cases h
  · cases h
theorem rx_k_goto {off : Int} {tgt : Nat} (ho : rx_off pc off = some tgt) (hd : decode M.2.1 pc = .ok (.goto off, 3)) : rx_entOK (rx_xh xt sl ln im) T lw M pc (.inl (fun _ => rx_q_goto tgt)) := by
  refine ⟨_, _, hd, fun d I F ht c s lv st => ⟨rx_ifN _, fun zs h => ?_⟩⟩
  show rx_h_goto off (I, F, ht, c, s, pc, lv, st) = some zs
  have ho2 : rx_off (rx_zpc (I, F, ht, c, s, pc, lv, st)) off = some tgt := ho
  unfold rx_h_goto
  rw [ho2]
  exact h
theorem rx_k_get {idx : Nat} {q : rx_Q} (hq : T.1 M.1 idx = some q) (hd : decode M.2.1 pc = .ok (.getfield idx, 3)) : rx_entOK (rx_xh xt sl ln im) T lw M pc (.inl (fun _ => rx_q_get q)) := by
  refine ⟨_, _, hd, fun d I F ht c s lv st => ⟨rx_ifN _, fun zs h => ?_⟩⟩
  dsimp only at h
  rw [rx_q_get_eq hq] at h
  exact h
theorem rx_k_put {idx : Nat} {q : rx_Q} {ini : Bool} (hq : T.1 M.1 idx = some q) (hi : M.2.2.2.2.2.1 = ini) (hd : decode M.2.1 pc = .ok (.putfield idx, 3)) : rx_entOK (rx_xh xt sl ln im) T lw M pc (.inl (fun _ => rx_q_put q ini)) := by
  subst hi
  refine ⟨_, _, hd, fun d I F ht c s lv st => ⟨rx_ifN _, fun zs h => ?_⟩⟩
  dsimp only at h
  rw [rx_q_put_eq hq] at h
  exact h
theorem rx_k_new {idx mc ms : Nat} {q : Nat × List Nat} (hq : T.2.1 M.1 idx = some q) (h1 : M.2.2.2.2.2.2.1 = mc) (h2 : M.2.2.2.2.2.2.2 = ms) (hd : decode M.2.1 pc = .ok (.new idx, 3)) : rx_entOK (rx_xh xt sl ln im) T lw M pc (.inl (fun _ => rx_q_new q mc ms)) := by
  subst h1; subst h2
  refine ⟨_, _, hd, fun d I F ht c s lv st => ⟨rx_ifN _, fun zs h => ?_⟩⟩
  dsimp only at h
  rw [rx_q_new_eq hq] at h
  exact h
theorem rx_k_newq {idx ci mc ms : Nat} (hq : T.2.2.1 M.1 idx = some ci) (h1 : M.2.2.2.2.2.2.1 = mc) (h2 : M.2.2.2.2.2.2.2 = ms) (hd : decode M.2.1 pc = .ok (.anewarray idx, 3)) : rx_entOK (rx_xh xt sl ln im) T lw M pc (.inl (fun _ => rx_q_newq ci mc ms)) := by
  subst h1; subst h2
  refine ⟨_, _, hd, fun d I F ht c s lv st => ⟨rx_ifN _, fun zs h => ?_⟩⟩
  dsimp only at h
  rw [rx_q_newq_eq hq] at h
  exact h
theorem rx_q_may {M : rx_Mt} {mc ms : Nat} {z : rx_Z} {α : Type} {x : Option α} (h1 : M.2.2.2.2.2.2.1 = mc) (h2 : M.2.2.2.2.2.2.2 = ms) : rx_if (1 == 1 && (decide (z.2.2.2.1 ≤ M.2.2.2.2.2.2.1) && decide (z.2.2.2.2.1 ≤ M.2.2.2.2.2.2.2))) x = rx_if (rx_q_mc mc ms z) x := by
  subst h1; subst h2
  have e : ∀ a b : Nat, decide (a ≤ b) = Nat.ble a b := fun a b => by
    rw [Bool.eq_iff_iff, decide_eq_true_eq, Nat.ble_eq]
  unfold rx_q_mc
  rw [e, e]
  rfl
theorem rx_k_reti {mc ms : Nat} (h1 : M.2.2.2.2.2.2.1 = mc) (h2 : M.2.2.2.2.2.2.2 = ms) (hr : M.2.2.2.1 = some .int) (hd : decode M.2.1 pc = .ok (.ireturn, 1)) : rx_entOK (rx_xh xt sl ln im) T lw M pc (.inr (.inl (rx_q_reti mc ms))) := by
  refine ⟨_, _, hd, fun I F ht c s lv st E h => ?_⟩
  unfold rx_retk
  rw [hr, rx_q_may h1 h2]
  exact h
theorem rx_k_retz {mc ms : Nat} (h1 : M.2.2.2.2.2.2.1 = mc) (h2 : M.2.2.2.2.2.2.2 = ms) (hr : M.2.2.2.1 = some .boolean) (hd : decode M.2.1 pc = .ok (.ireturn, 1)) : rx_entOK (rx_xh xt sl ln im) T lw M pc (.inr (.inl (rx_q_retz mc ms))) := by
  refine ⟨_, _, hd, fun I F ht c s lv st E h => ?_⟩
  unfold rx_retk
  rw [hr, rx_q_may h1 h2]
  exact h
theorem rx_k_retl {mc ms : Nat} (h1 : M.2.2.2.2.2.2.1 = mc) (h2 : M.2.2.2.2.2.2.2 = ms) (hr : M.2.2.2.1 = some .long) (hd : decode M.2.1 pc = .ok (.lreturn, 1)) : rx_entOK (rx_xh xt sl ln im) T lw M pc (.inr (.inl (rx_q_retl mc ms))) := by
  refine ⟨_, _, hd, fun I F ht c s lv st E h => ?_⟩
  unfold rx_retk
  rw [hr, rx_q_may h1 h2]
  exact h
theorem rx_k_retv {mc ms : Nat} (h1 : M.2.2.2.2.2.2.1 = mc) (h2 : M.2.2.2.2.2.2.2 = ms) (hr : M.2.2.2.1 = none) (hd : decode M.2.1 pc = .ok (.return_, 1)) : rx_entOK (rx_xh xt sl ln im) T lw M pc (.inr (.inl (rx_q_retv mc ms))) := by
  refine ⟨_, _, hd, fun I F ht c s lv st E h => ?_⟩
  unfold rx_retk
  rw [hr, rx_q_may h1 h2]
  exact h
theorem rx_k_reta {mc ms : Nat} (h1 : M.2.2.2.2.2.2.1 = mc) (h2 : M.2.2.2.2.2.2.2 = ms) (hr : (∃ n, M.2.2.2.1 = some (.object n)) ∨ ∃ n, M.2.2.2.1 = some (.array n)) (hd : decode M.2.1 pc = .ok (.areturn, 1)) : rx_entOK (rx_xh xt sl ln im) T lw M pc (.inr (.inl (rx_q_reta mc ms))) := by
  refine ⟨_, _, hd, fun I F ht c s lv st E h => ?_⟩
  unfold rx_retk
  rcases hr with ⟨n, hr⟩ | ⟨n, hr⟩
  all_goals
    rw [hr, rx_q_may h1 h2]
    exact h
theorem rx_k_call0 {idx how n ci j' : Nat} {M' : rx_Mt} (hq : T.2.2.2.2.1 M.1 idx = some (how, n, ci, j')) (hM : T.2.2.2.2.2 j' = some M') (hw : (how % 3 == 0 && decide (how < 6)) = true) (hx : xt M.1 idx = none) (hd : decode M.2.1 pc = .ok (.invokevirtual idx, 3)) : rx_entOK (rx_xh xt sl ln im) T lw M pc (.inr (.inr (j', M', rx_q_vcall M M' n ci))) := by
  refine ⟨_, _, hd, hM, fun d I F ht c s lv st => ⟨rfl, ?_, fun as t h => ⟨(how, n, ci, j'), ?_⟩⟩⟩
  · show rx_or (rx_if (3 == 3 && xt M.1 idx == some 14) _) _ = none
    rw [hx]
    rfl
  · unfold rx_prep rx_cidx
    unfold rx_q_vcall at h
    dsimp only at h ⊢
    rw [hq]
    dsimp only
    rw [hM]
    split at h
    · rename_i as2 t2 e
      rw [e]
      dsimp only
      rw [hw]
      split at h
      · rename_i k t3 e2
        obtain ⟨h1, h2⟩ := rx_if_ok h
        cases h2
        have hne : ¬ ((0 : Nat) = 1) := by decide
        rw [rx_q_rcv_eq] at e2
        rw [if_neg hne, e2]
        dsimp only
        rw [h1]
        rfl
      · cases h
    · cases h
theorem rx_k_call1 {idx how n ci j' : Nat} {M' : rx_Mt} (hq : T.2.2.2.2.1 M.1 idx = some (how, n, ci, j')) (hM : T.2.2.2.2.2 j' = some M') (hw : (how % 3 == 1 && decide (how < 6)) = true) (hx : xt M.1 idx = none) (hd : decode M.2.1 pc = .ok (.invokestatic idx, 3)) : rx_entOK (rx_xh xt sl ln im) T lw M pc (.inr (.inr (j', M', rx_q_scall M M' n))) := by
  refine ⟨_, _, hd, hM, fun d I F ht c s lv st => ⟨rfl, ?_, fun as t h => ⟨(how, n, ci, j'), ?_⟩⟩⟩
  · have e : rx_xh xt sl ln im d M (.invokestatic idx) 3 (I, F, ht, c, s, pc, lv, st) = none := by
      show (match xt M.1 idx with
        | some 11 => rx_x_copy d (I, F, ht, c, s, pc, lv, st)
        | some 12 => rx_x_fill d (I, F, ht, c, s, pc, lv, st)
        | some 13 => rx_x_min d (I, F, ht, c, s, pc, lv, st)
        | _ => none) = _
      rw [hx]
      try rfl
    rw [e]
    rfl
  · unfold rx_prep rx_cidx
    unfold rx_q_scall at h
    dsimp only at h ⊢
    rw [hq]
    dsimp only
    rw [hM]
    split at h
    · rename_i as2 t2 e
      rw [e]
      dsimp only
      rw [hw]
      obtain ⟨h1, h2⟩ := rx_if_ok h
      cases h2
      rw [h1]
      rfl
    · cases h
theorem rx_k_call2 {idx how n ci j' : Nat} {M' : rx_Mt} (hq : T.2.2.2.2.1 M.1 idx = some (how, n, ci, j')) (hM : T.2.2.2.2.2 j' = some M') (hw : (how % 3 == 2 && decide (how < 6)) = true) (hx : xt M.1 idx = none) (hd : decode M.2.1 pc = .ok (.invokespecial idx, 3)) : rx_entOK (rx_xh xt sl ln im) T lw M pc (.inr (.inr (j', M', rx_q_vcall M M' n ci))) := by
  refine ⟨_, _, hd, hM, fun d I F ht c s lv st => ⟨rfl, ?_, fun as t h => ⟨(how, n, ci, j'), ?_⟩⟩⟩
  · show rx_or (rx_if (3 == 3 && xt M.1 idx == some 10) _) _ = none
    rw [hx]
    rfl
  · unfold rx_prep rx_cidx
    unfold rx_q_vcall at h
    dsimp only at h ⊢
    rw [hq]
    dsimp only
    rw [hM]
    split at h
    · rename_i as2 t2 e
      rw [e]
      dsimp only
      rw [hw]
      split at h
      · rename_i k t3 e2
        obtain ⟨h1, h2⟩ := rx_if_ok h
        cases h2
        have hne : ¬ ((2 : Nat) = 1) := by decide
        rw [rx_q_rcv_eq] at e2
        rw [if_neg hne, e2]
        dsimp only
        rw [h1]
        rfl
      · cases h
    · cases h
end RXK
end
section
-- ===== PART A: goes FIRST, ahead of the names: the tables' words, and 'selects' of the private methods out of them =====
/-- a private method of a class that the tables say can be made, by its rows of tables_1 -/
def lw_okq (q : MethodName × Nat) : Prop := (q.1.cls ≠ "java/lang/invoke/MethodHandle" ∧ q.1.cls ≠ "java/lang/invoke/VarHandle") ∧ Cond.instantiable q.1.cls q.2 ∈ tables_1 ∧ Cond.privateMethod q.1 ∈ tables_1 ∧ Cond.instanceMethod q.1 ∈ tables_1
theorem lw_p0 : lw_okq (⟨"DeadUnderstudies", "refuse", "(I)I"⟩, 20) := ⟨⟨by decide +kernel, by decide +kernel⟩, List.mem_of_getElem? (i := 23) (by decide +kernel), List.mem_of_getElem? (i := 576) (by decide +kernel), List.mem_of_getElem? (i := 577) (by decide +kernel)⟩
theorem lw_p1 : lw_okq (⟨"DeadUnderstudies", "accept", "(I)I"⟩, 20) := ⟨⟨by decide +kernel, by decide +kernel⟩, List.mem_of_getElem? (i := 23) (by decide +kernel), List.mem_of_getElem? (i := 585) (by decide +kernel), List.mem_of_getElem? (i := 586) (by decide +kernel)⟩
theorem lw_p2 : lw_okq (⟨"DeadUnderstudies", "putBytes", "(I)V"⟩, 20) := ⟨⟨by decide +kernel, by decide +kernel⟩, List.mem_of_getElem? (i := 23) (by decide +kernel), List.mem_of_getElem? (i := 691) (by decide +kernel), List.mem_of_getElem? (i := 692) (by decide +kernel)⟩
theorem lw_p3 : lw_okq (⟨"DeadUnderstudies", "takeRuleAt", "(ILDeadUnderstudies$Script;)Z"⟩, 20) := ⟨⟨by decide +kernel, by decide +kernel⟩, List.mem_of_getElem? (i := 23) (by decide +kernel), List.mem_of_getElem? (i := 703) (by decide +kernel), List.mem_of_getElem? (i := 704) (by decide +kernel)⟩
theorem lw_p4 : lw_okq (⟨"DeadUnderstudies$Reader", "advance", "()V"⟩, 13) := ⟨⟨by decide +kernel, by decide +kernel⟩, List.mem_of_getElem? (i := 243) (by decide +kernel), List.mem_of_getElem? (i := 726) (by decide +kernel), List.mem_of_getElem? (i := 727) (by decide +kernel)⟩
theorem lw_p5 : lw_okq (⟨"DeadUnderstudies$Reader", "isLetter", "(I)Z"⟩, 13) := ⟨⟨by decide +kernel, by decide +kernel⟩, List.mem_of_getElem? (i := 243) (by decide +kernel), List.mem_of_getElem? (i := 730) (by decide +kernel), List.mem_of_getElem? (i := 731) (by decide +kernel)⟩
theorem lw_p6 : lw_okq (⟨"DeadUnderstudies$Reader", "isDigit", "(I)Z"⟩, 13) := ⟨⟨by decide +kernel, by decide +kernel⟩, List.mem_of_getElem? (i := 243) (by decide +kernel), List.mem_of_getElem? (i := 734) (by decide +kernel), List.mem_of_getElem? (i := 735) (by decide +kernel)⟩
theorem lw_p7 : lw_okq (⟨"DeadUnderstudies$Reader", "readPlayClause", "()Z"⟩, 13) := ⟨⟨by decide +kernel, by decide +kernel⟩, List.mem_of_getElem? (i := 243) (by decide +kernel), List.mem_of_getElem? (i := 738) (by decide +kernel), List.mem_of_getElem? (i := 739) (by decide +kernel)⟩
theorem lw_p8 : lw_okq (⟨"DeadUnderstudies$Reader", "takeWord", "(Ljava/lang/String;)Z"⟩, 13) := ⟨⟨by decide +kernel, by decide +kernel⟩, List.mem_of_getElem? (i := 243) (by decide +kernel), List.mem_of_getElem? (i := 743) (by decide +kernel), List.mem_of_getElem? (i := 744) (by decide +kernel)⟩
theorem lw_p9 : lw_okq (⟨"DeadUnderstudies$Reader", "isWord", "(Ljava/lang/String;)Z"⟩, 13) := ⟨⟨by decide +kernel, by decide +kernel⟩, List.mem_of_getElem? (i := 243) (by decide +kernel), List.mem_of_getElem? (i := 747) (by decide +kernel), List.mem_of_getElem? (i := 748) (by decide +kernel)⟩
theorem lw_p10 : lw_okq (⟨"DeadUnderstudies$Reader", "fail", "()Z"⟩, 13) := ⟨⟨by decide +kernel, by decide +kernel⟩, List.mem_of_getElem? (i := 243) (by decide +kernel), List.mem_of_getElem? (i := 799) (by decide +kernel), List.mem_of_getElem? (i := 800) (by decide +kernel)⟩
theorem lw_p11 : lw_okq (⟨"DeadUnderstudies$Reader", "placeHere", "()I"⟩, 13) := ⟨⟨by decide +kernel, by decide +kernel⟩, List.mem_of_getElem? (i := 243) (by decide +kernel), List.mem_of_getElem? (i := 803) (by decide +kernel), List.mem_of_getElem? (i := 804) (by decide +kernel)⟩
theorem lw_p12 : lw_okq (⟨"DeadUnderstudies$Reader", "numberHere", "()I"⟩, 13) := ⟨⟨by decide +kernel, by decide +kernel⟩, List.mem_of_getElem? (i := 243) (by decide +kernel), List.mem_of_getElem? (i := 808) (by decide +kernel), List.mem_of_getElem? (i := 809) (by decide +kernel)⟩
theorem lw_p13 : lw_okq (⟨"DeadUnderstudies$Reader", "readExpression", "([II)Z"⟩, 13) := ⟨⟨by decide +kernel, by decide +kernel⟩, List.mem_of_getElem? (i := 243) (by decide +kernel), List.mem_of_getElem? (i := 819) (by decide +kernel), List.mem_of_getElem? (i := 820) (by decide +kernel)⟩
theorem lw_p14 : lw_okq (⟨"DeadUnderstudies$Reader", "setStage", "(I)V"⟩, 13) := ⟨⟨by decide +kernel, by decide +kernel⟩, List.mem_of_getElem? (i := 243) (by decide +kernel), List.mem_of_getElem? (i := 827) (by decide +kernel), List.mem_of_getElem? (i := 828) (by decide +kernel)⟩
theorem lw_p15 : lw_okq (⟨"DeadUnderstudies$Reader", "isPart", "()Z"⟩, 13) := ⟨⟨by decide +kernel, by decide +kernel⟩, List.mem_of_getElem? (i := 243) (by decide +kernel), List.mem_of_getElem? (i := 831) (by decide +kernel), List.mem_of_getElem? (i := 832) (by decide +kernel)⟩
def lw_privs_1 : List (MethodName × Nat) := [(⟨"DeadUnderstudies", "refuse", "(I)I"⟩, 20), (⟨"DeadUnderstudies", "accept", "(I)I"⟩, 20), (⟨"DeadUnderstudies", "putBytes", "(I)V"⟩, 20), (⟨"DeadUnderstudies", "takeRuleAt", "(ILDeadUnderstudies$Script;)Z"⟩, 20), (⟨"DeadUnderstudies$Reader", "advance", "()V"⟩, 13), (⟨"DeadUnderstudies$Reader", "isLetter", "(I)Z"⟩, 13), (⟨"DeadUnderstudies$Reader", "isDigit", "(I)Z"⟩, 13), (⟨"DeadUnderstudies$Reader", "readPlayClause", "()Z"⟩, 13), (⟨"DeadUnderstudies$Reader", "takeWord", "(Ljava/lang/String;)Z"⟩, 13), (⟨"DeadUnderstudies$Reader", "isWord", "(Ljava/lang/String;)Z"⟩, 13), (⟨"DeadUnderstudies$Reader", "fail", "()Z"⟩, 13), (⟨"DeadUnderstudies$Reader", "placeHere", "()I"⟩, 13), (⟨"DeadUnderstudies$Reader", "numberHere", "()I"⟩, 13), (⟨"DeadUnderstudies$Reader", "readExpression", "([II)Z"⟩, 13), (⟨"DeadUnderstudies$Reader", "setStage", "(I)V"⟩, 13), (⟨"DeadUnderstudies$Reader", "isPart", "()Z"⟩, 13)]
theorem lw_r1 : ∀ q ∈ lw_privs_1, lw_okq q := List.forall_mem_cons.mpr ⟨lw_p0, List.forall_mem_cons.mpr ⟨lw_p1, List.forall_mem_cons.mpr ⟨lw_p2, List.forall_mem_cons.mpr ⟨lw_p3, List.forall_mem_cons.mpr ⟨lw_p4, List.forall_mem_cons.mpr ⟨lw_p5, List.forall_mem_cons.mpr ⟨lw_p6, List.forall_mem_cons.mpr ⟨lw_p7, List.forall_mem_cons.mpr ⟨lw_p8, List.forall_mem_cons.mpr ⟨lw_p9, List.forall_mem_cons.mpr ⟨lw_p10, List.forall_mem_cons.mpr ⟨lw_p11, List.forall_mem_cons.mpr ⟨lw_p12, List.forall_mem_cons.mpr ⟨lw_p13, List.forall_mem_cons.mpr ⟨lw_p14, List.forall_mem_cons.mpr ⟨lw_p15, fun _ h => absurd h List.not_mem_nil⟩⟩⟩⟩⟩⟩⟩⟩⟩⟩⟩⟩⟩⟩⟩⟩
theorem lw_p16 : lw_okq (⟨"DeadUnderstudies$Reader", "nameHere", "()I"⟩, 13) := ⟨⟨by decide +kernel, by decide +kernel⟩, List.mem_of_getElem? (i := 243) (by decide +kernel), List.mem_of_getElem? (i := 835) (by decide +kernel), List.mem_of_getElem? (i := 836) (by decide +kernel)⟩
theorem lw_p17 : lw_okq (⟨"DeadUnderstudies$Reader", "readPart", "()Z"⟩, 13) := ⟨⟨by decide +kernel, by decide +kernel⟩, List.mem_of_getElem? (i := 243) (by decide +kernel), List.mem_of_getElem? (i := 851) (by decide +kernel), List.mem_of_getElem? (i := 852) (by decide +kernel)⟩
theorem lw_p18 : lw_okq (⟨"DeadUnderstudies$Reader", "openSum", "()V"⟩, 13) := ⟨⟨by decide +kernel, by decide +kernel⟩, List.mem_of_getElem? (i := 243) (by decide +kernel), List.mem_of_getElem? (i := 859) (by decide +kernel), List.mem_of_getElem? (i := 860) (by decide +kernel)⟩
theorem lw_p19 : lw_okq (⟨"DeadUnderstudies$Reader", "stageHere", "()I"⟩, 13) := ⟨⟨by decide +kernel, by decide +kernel⟩, List.mem_of_getElem? (i := 243) (by decide +kernel), List.mem_of_getElem? (i := 863) (by decide +kernel), List.mem_of_getElem? (i := 864) (by decide +kernel)⟩
theorem lw_p20 : lw_okq (⟨"DeadUnderstudies$Reader", "readOpening", "()Z"⟩, 13) := ⟨⟨by decide +kernel, by decide +kernel⟩, List.mem_of_getElem? (i := 243) (by decide +kernel), List.mem_of_getElem? (i := 867) (by decide +kernel), List.mem_of_getElem? (i := 868) (by decide +kernel)⟩
theorem lw_p21 : lw_okq (⟨"DeadUnderstudies$Reader", "isSign", "(C)Z"⟩, 13) := ⟨⟨by decide +kernel, by decide +kernel⟩, List.mem_of_getElem? (i := 243) (by decide +kernel), List.mem_of_getElem? (i := 871) (by decide +kernel), List.mem_of_getElem? (i := 872) (by decide +kernel)⟩
theorem lw_p22 : lw_okq (⟨"DeadUnderstudies$Reader", "push", "(II)V"⟩, 13) := ⟨⟨by decide +kernel, by decide +kernel⟩, List.mem_of_getElem? (i := 243) (by decide +kernel), List.mem_of_getElem? (i := 876) (by decide +kernel), List.mem_of_getElem? (i := 877) (by decide +kernel)⟩
theorem lw_p23 : lw_okq (⟨"DeadUnderstudies$Reader", "isClosing", "()Z"⟩, 13) := ⟨⟨by decide +kernel, by decide +kernel⟩, List.mem_of_getElem? (i := 243) (by decide +kernel), List.mem_of_getElem? (i := 880) (by decide +kernel), List.mem_of_getElem? (i := 881) (by decide +kernel)⟩
theorem lw_p24 : lw_okq (⟨"DeadUnderstudies$Reader", "isWholeTest", "()Z"⟩, 13) := ⟨⟨by decide +kernel, by decide +kernel⟩, List.mem_of_getElem? (i := 243) (by decide +kernel), List.mem_of_getElem? (i := 884) (by decide +kernel), List.mem_of_getElem? (i := 885) (by decide +kernel)⟩
theorem lw_p25 : lw_okq (⟨"DeadUnderstudies$Reader", "readClosing", "()V"⟩, 13) := ⟨⟨by decide +kernel, by decide +kernel⟩, List.mem_of_getElem? (i := 243) (by decide +kernel), List.mem_of_getElem? (i := 888) (by decide +kernel), List.mem_of_getElem? (i := 889) (by decide +kernel)⟩
theorem lw_p26 : lw_okq (⟨"DeadUnderstudies$Reader", "reduce", "(I)V"⟩, 13) := ⟨⟨by decide +kernel, by decide +kernel⟩, List.mem_of_getElem? (i := 243) (by decide +kernel), List.mem_of_getElem? (i := 892) (by decide +kernel), List.mem_of_getElem? (i := 893) (by decide +kernel)⟩
theorem lw_p27 : lw_okq (⟨"DeadUnderstudies$Reader", "operatorHere", "()I"⟩, 13) := ⟨⟨by decide +kernel, by decide +kernel⟩, List.mem_of_getElem? (i := 243) (by decide +kernel), List.mem_of_getElem? (i := 903) (by decide +kernel), List.mem_of_getElem? (i := 904) (by decide +kernel)⟩
theorem lw_p28 : lw_okq (⟨"DeadUnderstudies$Reader", "closeExpression", "()Z"⟩, 13) := ⟨⟨by decide +kernel, by decide +kernel⟩, List.mem_of_getElem? (i := 243) (by decide +kernel), List.mem_of_getElem? (i := 909) (by decide +kernel), List.mem_of_getElem? (i := 910) (by decide +kernel)⟩
theorem lw_p29 : lw_okq (⟨"DeadUnderstudies$Reader", "readOperator", "(I)V"⟩, 13) := ⟨⟨by decide +kernel, by decide +kernel⟩, List.mem_of_getElem? (i := 243) (by decide +kernel), List.mem_of_getElem? (i := 913) (by decide +kernel), List.mem_of_getElem? (i := 914) (by decide +kernel)⟩
theorem lw_p30 : lw_okq (⟨"DeadUnderstudies$Reader", "readLawClause", "()Z"⟩, 13) := ⟨⟨by decide +kernel, by decide +kernel⟩, List.mem_of_getElem? (i := 243) (by decide +kernel), List.mem_of_getElem? (i := 918) (by decide +kernel), List.mem_of_getElem? (i := 919) (by decide +kernel)⟩
theorem lw_p31 : lw_okq (⟨"DeadUnderstudies$Reader", "readIf", "()Z"⟩, 13) := ⟨⟨by decide +kernel, by decide +kernel⟩, List.mem_of_getElem? (i := 243) (by decide +kernel), List.mem_of_getElem? (i := 925) (by decide +kernel), List.mem_of_getElem? (i := 926) (by decide +kernel)⟩
def lw_privs_2 : List (MethodName × Nat) := [(⟨"DeadUnderstudies$Reader", "nameHere", "()I"⟩, 13), (⟨"DeadUnderstudies$Reader", "readPart", "()Z"⟩, 13), (⟨"DeadUnderstudies$Reader", "openSum", "()V"⟩, 13), (⟨"DeadUnderstudies$Reader", "stageHere", "()I"⟩, 13), (⟨"DeadUnderstudies$Reader", "readOpening", "()Z"⟩, 13), (⟨"DeadUnderstudies$Reader", "isSign", "(C)Z"⟩, 13), (⟨"DeadUnderstudies$Reader", "push", "(II)V"⟩, 13), (⟨"DeadUnderstudies$Reader", "isClosing", "()Z"⟩, 13), (⟨"DeadUnderstudies$Reader", "isWholeTest", "()Z"⟩, 13), (⟨"DeadUnderstudies$Reader", "readClosing", "()V"⟩, 13), (⟨"DeadUnderstudies$Reader", "reduce", "(I)V"⟩, 13), (⟨"DeadUnderstudies$Reader", "operatorHere", "()I"⟩, 13), (⟨"DeadUnderstudies$Reader", "closeExpression", "()Z"⟩, 13), (⟨"DeadUnderstudies$Reader", "readOperator", "(I)V"⟩, 13), (⟨"DeadUnderstudies$Reader", "readLawClause", "()Z"⟩, 13), (⟨"DeadUnderstudies$Reader", "readIf", "()Z"⟩, 13)]
theorem lw_r2 : ∀ q ∈ lw_privs_2, lw_okq q := List.forall_mem_cons.mpr ⟨lw_p16, List.forall_mem_cons.mpr ⟨lw_p17, List.forall_mem_cons.mpr ⟨lw_p18, List.forall_mem_cons.mpr ⟨lw_p19, List.forall_mem_cons.mpr ⟨lw_p20, List.forall_mem_cons.mpr ⟨lw_p21, List.forall_mem_cons.mpr ⟨lw_p22, List.forall_mem_cons.mpr ⟨lw_p23, List.forall_mem_cons.mpr ⟨lw_p24, List.forall_mem_cons.mpr ⟨lw_p25, List.forall_mem_cons.mpr ⟨lw_p26, List.forall_mem_cons.mpr ⟨lw_p27, List.forall_mem_cons.mpr ⟨lw_p28, List.forall_mem_cons.mpr ⟨lw_p29, List.forall_mem_cons.mpr ⟨lw_p30, List.forall_mem_cons.mpr ⟨lw_p31, fun _ h => absurd h List.not_mem_nil⟩⟩⟩⟩⟩⟩⟩⟩⟩⟩⟩⟩⟩⟩⟩⟩
theorem lw_p32 : lw_okq (⟨"DeadUnderstudies$Town", "performAt", "(LDeadUnderstudies$Program;IIII)Z"⟩, 19) := ⟨⟨by decide +kernel, by decide +kernel⟩, List.mem_of_getElem? (i := 31) (by decide +kernel), List.mem_of_getElem? (i := 938) (by decide +kernel), List.mem_of_getElem? (i := 939) (by decide +kernel)⟩
theorem lw_p33 : lw_okq (⟨"DeadUnderstudies$Town", "hearClause", "(LDeadUnderstudies$Program;I)V"⟩, 19) := ⟨⟨by decide +kernel, by decide +kernel⟩, List.mem_of_getElem? (i := 31) (by decide +kernel), List.mem_of_getElem? (i := 1011) (by decide +kernel), List.mem_of_getElem? (i := 1012) (by decide +kernel)⟩
theorem lw_p34 : lw_okq (⟨"DeadUnderstudies$Route", "join", "(III)V"⟩, 7) := ⟨⟨by decide +kernel, by decide +kernel⟩, List.mem_of_getElem? (i := 295) (by decide +kernel), List.mem_of_getElem? (i := 1120) (by decide +kernel), List.mem_of_getElem? (i := 1121) (by decide +kernel)⟩
theorem lw_p35 : lw_okq (⟨"DeadUnderstudies$Route", "trace", "(II)V"⟩, 7) := ⟨⟨by decide +kernel, by decide +kernel⟩, List.mem_of_getElem? (i := 295) (by decide +kernel), List.mem_of_getElem? (i := 1125) (by decide +kernel), List.mem_of_getElem? (i := 1126) (by decide +kernel)⟩
theorem lw_p36 : lw_okq (⟨"DeadUnderstudies", "seatDuet", "(III)Z"⟩, 20) := ⟨⟨by decide +kernel, by decide +kernel⟩, List.mem_of_getElem? (i := 23) (by decide +kernel), List.mem_of_getElem? (i := 1142) (by decide +kernel), List.mem_of_getElem? (i := 1143) (by decide +kernel)⟩
theorem lw_p37 : lw_okq (⟨"DeadUnderstudies$Duet", "start", "(I)V"⟩, 15) := ⟨⟨by decide +kernel, by decide +kernel⟩, List.mem_of_getElem? (i := 323) (by decide +kernel), List.mem_of_getElem? (i := 1155) (by decide +kernel), List.mem_of_getElem? (i := 1156) (by decide +kernel)⟩
theorem lw_p38 : lw_okq (⟨"DeadUnderstudies$Duet", "speak", "()I"⟩, 15) := ⟨⟨by decide +kernel, by decide +kernel⟩, List.mem_of_getElem? (i := 323) (by decide +kernel), List.mem_of_getElem? (i := 1159) (by decide +kernel), List.mem_of_getElem? (i := 1160) (by decide +kernel)⟩
theorem lw_p39 : lw_okq (⟨"DeadUnderstudies$Duet", "speaker", "()LDeadUnderstudies$Script;"⟩, 15) := ⟨⟨by decide +kernel, by decide +kernel⟩, List.mem_of_getElem? (i := 323) (by decide +kernel), List.mem_of_getElem? (i := 1163) (by decide +kernel), List.mem_of_getElem? (i := 1164) (by decide +kernel)⟩
theorem lw_p40 : lw_okq (⟨"DeadUnderstudies$Duet", "speakerState", "()I"⟩, 15) := ⟨⟨by decide +kernel, by decide +kernel⟩, List.mem_of_getElem? (i := 323) (by decide +kernel), List.mem_of_getElem? (i := 1167) (by decide +kernel), List.mem_of_getElem? (i := 1168) (by decide +kernel)⟩
theorem lw_p41 : lw_okq (⟨"DeadUnderstudies$Duet", "place", "()I"⟩, 15) := ⟨⟨by decide +kernel, by decide +kernel⟩, List.mem_of_getElem? (i := 323) (by decide +kernel), List.mem_of_getElem? (i := 1177) (by decide +kernel), List.mem_of_getElem? (i := 1178) (by decide +kernel)⟩
theorem lw_p42 : lw_okq (⟨"DeadUnderstudies$Duet", "addMend", "(II)V"⟩, 15) := ⟨⟨by decide +kernel, by decide +kernel⟩, List.mem_of_getElem? (i := 323) (by decide +kernel), List.mem_of_getElem? (i := 1191) (by decide +kernel), List.mem_of_getElem? (i := 1192) (by decide +kernel)⟩
theorem lw_p43 : lw_okq (⟨"DeadUnderstudies", "mostVotes", "()I"⟩, 20) := ⟨⟨by decide +kernel, by decide +kernel⟩, List.mem_of_getElem? (i := 23) (by decide +kernel), List.mem_of_getElem? (i := 1205) (by decide +kernel), List.mem_of_getElem? (i := 1206) (by decide +kernel)⟩
theorem lw_p44 : lw_okq (⟨"DeadUnderstudies", "firstWordWith", "(I)I"⟩, 20) := ⟨⟨by decide +kernel, by decide +kernel⟩, List.mem_of_getElem? (i := 23) (by decide +kernel), List.mem_of_getElem? (i := 1210) (by decide +kernel), List.mem_of_getElem? (i := 1211) (by decide +kernel)⟩
theorem lw_p45 : lw_okq (⟨"DeadUnderstudies", "wordsWith", "(I)I"⟩, 20) := ⟨⟨by decide +kernel, by decide +kernel⟩, List.mem_of_getElem? (i := 23) (by decide +kernel), List.mem_of_getElem? (i := 1230) (by decide +kernel), List.mem_of_getElem? (i := 1231) (by decide +kernel)⟩
theorem lw_p46 : lw_okq (⟨"DeadUnderstudies", "allVotes", "()I"⟩, 20) := ⟨⟨by decide +kernel, by decide +kernel⟩, List.mem_of_getElem? (i := 23) (by decide +kernel), List.mem_of_getElem? (i := 1238) (by decide +kernel), List.mem_of_getElem? (i := 1239) (by decide +kernel)⟩
theorem lw_p47 : lw_okq (⟨"DeadUnderstudies$Chain", "join", "(II)V"⟩, 9) := ⟨⟨by decide +kernel, by decide +kernel⟩, List.mem_of_getElem? (i := 432) (by decide +kernel), List.mem_of_getElem? (i := 1271) (by decide +kernel), List.mem_of_getElem? (i := 1272) (by decide +kernel)⟩
def lw_privs_3 : List (MethodName × Nat) := [(⟨"DeadUnderstudies$Town", "performAt", "(LDeadUnderstudies$Program;IIII)Z"⟩, 19), (⟨"DeadUnderstudies$Town", "hearClause", "(LDeadUnderstudies$Program;I)V"⟩, 19), (⟨"DeadUnderstudies$Route", "join", "(III)V"⟩, 7), (⟨"DeadUnderstudies$Route", "trace", "(II)V"⟩, 7), (⟨"DeadUnderstudies", "seatDuet", "(III)Z"⟩, 20), (⟨"DeadUnderstudies$Duet", "start", "(I)V"⟩, 15), (⟨"DeadUnderstudies$Duet", "speak", "()I"⟩, 15), (⟨"DeadUnderstudies$Duet", "speaker", "()LDeadUnderstudies$Script;"⟩, 15), (⟨"DeadUnderstudies$Duet", "speakerState", "()I"⟩, 15), (⟨"DeadUnderstudies$Duet", "place", "()I"⟩, 15), (⟨"DeadUnderstudies$Duet", "addMend", "(II)V"⟩, 15), (⟨"DeadUnderstudies", "mostVotes", "()I"⟩, 20), (⟨"DeadUnderstudies", "firstWordWith", "(I)I"⟩, 20), (⟨"DeadUnderstudies", "wordsWith", "(I)I"⟩, 20), (⟨"DeadUnderstudies", "allVotes", "()I"⟩, 20), (⟨"DeadUnderstudies$Chain", "join", "(II)V"⟩, 9)]
theorem lw_r3 : ∀ q ∈ lw_privs_3, lw_okq q := List.forall_mem_cons.mpr ⟨lw_p32, List.forall_mem_cons.mpr ⟨lw_p33, List.forall_mem_cons.mpr ⟨lw_p34, List.forall_mem_cons.mpr ⟨lw_p35, List.forall_mem_cons.mpr ⟨lw_p36, List.forall_mem_cons.mpr ⟨lw_p37, List.forall_mem_cons.mpr ⟨lw_p38, List.forall_mem_cons.mpr ⟨lw_p39, List.forall_mem_cons.mpr ⟨lw_p40, List.forall_mem_cons.mpr ⟨lw_p41, List.forall_mem_cons.mpr ⟨lw_p42, List.forall_mem_cons.mpr ⟨lw_p43, List.forall_mem_cons.mpr ⟨lw_p44, List.forall_mem_cons.mpr ⟨lw_p45, List.forall_mem_cons.mpr ⟨lw_p46, List.forall_mem_cons.mpr ⟨lw_p47, fun _ h => absurd h List.not_mem_nil⟩⟩⟩⟩⟩⟩⟩⟩⟩⟩⟩⟩⟩⟩⟩⟩
theorem lw_p48 : lw_okq (⟨"DeadUnderstudies$Chain", "trace", "(I)V"⟩, 9) := ⟨⟨by decide +kernel, by decide +kernel⟩, List.mem_of_getElem? (i := 432) (by decide +kernel), List.mem_of_getElem? (i := 1276) (by decide +kernel), List.mem_of_getElem? (i := 1277) (by decide +kernel)⟩
theorem lw_p49 : lw_okq (⟨"DeadUnderstudies$Cast", "markFits", "()V"⟩, 10) := ⟨⟨by decide +kernel, by decide +kernel⟩, List.mem_of_getElem? (i := 470) (by decide +kernel), List.mem_of_getElem? (i := 1299) (by decide +kernel), List.mem_of_getElem? (i := 1300) (by decide +kernel)⟩
theorem lw_p50 : lw_okq (⟨"DeadUnderstudies$Cast", "countWays", "()V"⟩, 10) := ⟨⟨by decide +kernel, by decide +kernel⟩, List.mem_of_getElem? (i := 470) (by decide +kernel), List.mem_of_getElem? (i := 1303) (by decide +kernel), List.mem_of_getElem? (i := 1304) (by decide +kernel)⟩
theorem lw_p51 : lw_okq (⟨"DeadUnderstudies$Cast", "addWays", "(II)V"⟩, 10) := ⟨⟨by decide +kernel, by decide +kernel⟩, List.mem_of_getElem? (i := 470) (by decide +kernel), List.mem_of_getElem? (i := 1308) (by decide +kernel), List.mem_of_getElem? (i := 1309) (by decide +kernel)⟩
theorem lw_p52 : lw_okq (⟨"DeadUnderstudies$Cast", "findRow", "(II)Z"⟩, 10) := ⟨⟨by decide +kernel, by decide +kernel⟩, List.mem_of_getElem? (i := 470) (by decide +kernel), List.mem_of_getElem? (i := 1312) (by decide +kernel), List.mem_of_getElem? (i := 1313) (by decide +kernel)⟩
theorem lw_p53 : lw_okq (⟨"DeadUnderstudies$Cast", "findRowWith", "(III)Z"⟩, 10) := ⟨⟨by decide +kernel, by decide +kernel⟩, List.mem_of_getElem? (i := 470) (by decide +kernel), List.mem_of_getElem? (i := 1316) (by decide +kernel), List.mem_of_getElem? (i := 1317) (by decide +kernel)⟩
theorem lw_p54 : lw_okq (⟨"DeadUnderstudies$Least", "search", "(IIIZ)V"⟩, 14) := ⟨⟨by decide +kernel, by decide +kernel⟩, List.mem_of_getElem? (i := 383) (by decide +kernel), List.mem_of_getElem? (i := 1359) (by decide +kernel), List.mem_of_getElem? (i := 1360) (by decide +kernel)⟩
theorem lw_p55 : lw_okq (⟨"DeadUnderstudies$Least", "explore", "(III)V"⟩, 14) := ⟨⟨by decide +kernel, by decide +kernel⟩, List.mem_of_getElem? (i := 383) (by decide +kernel), List.mem_of_getElem? (i := 1365) (by decide +kernel), List.mem_of_getElem? (i := 1366) (by decide +kernel)⟩
theorem lw_p56 : lw_okq (⟨"DeadUnderstudies$Least", "wordsHere", "()I"⟩, 14) := ⟨⟨by decide +kernel, by decide +kernel⟩, List.mem_of_getElem? (i := 383) (by decide +kernel), List.mem_of_getElem? (i := 1369) (by decide +kernel), List.mem_of_getElem? (i := 1370) (by decide +kernel)⟩
theorem lw_p57 : lw_okq (⟨"DeadUnderstudies$Least", "stateBehindRow", "()I"⟩, 14) := ⟨⟨by decide +kernel, by decide +kernel⟩, List.mem_of_getElem? (i := 383) (by decide +kernel), List.mem_of_getElem? (i := 1373) (by decide +kernel), List.mem_of_getElem? (i := 1374) (by decide +kernel)⟩
theorem lw_p58 : lw_okq (⟨"DeadUnderstudies$Least", "wordsOf", "(I)I"⟩, 14) := ⟨⟨by decide +kernel, by decide +kernel⟩, List.mem_of_getElem? (i := 383) (by decide +kernel), List.mem_of_getElem? (i := 1380) (by decide +kernel), List.mem_of_getElem? (i := 1381) (by decide +kernel)⟩
theorem lw_p59 : lw_okq (⟨"DeadUnderstudies$Least", "goOn", "(III)V"⟩, 14) := ⟨⟨by decide +kernel, by decide +kernel⟩, List.mem_of_getElem? (i := 383) (by decide +kernel), List.mem_of_getElem? (i := 1384) (by decide +kernel), List.mem_of_getElem? (i := 1385) (by decide +kernel)⟩
theorem lw_p60 : lw_okq (⟨"DeadUnderstudies$Least", "endsRow", "(I)Z"⟩, 14) := ⟨⟨by decide +kernel, by decide +kernel⟩, List.mem_of_getElem? (i := 383) (by decide +kernel), List.mem_of_getElem? (i := 1388) (by decide +kernel), List.mem_of_getElem? (i := 1389) (by decide +kernel)⟩
theorem lw_p61 : lw_okq (⟨"DeadUnderstudies", "runCentury", "(III)V"⟩, 20) := ⟨⟨by decide +kernel, by decide +kernel⟩, List.mem_of_getElem? (i := 23) (by decide +kernel), List.mem_of_getElem? (i := 1410) (by decide +kernel), List.mem_of_getElem? (i := 1411) (by decide +kernel)⟩
theorem lw_p62 : lw_okq (⟨"DeadUnderstudies", "seedBehindLesson", "(II)I"⟩, 20) := ⟨⟨by decide +kernel, by decide +kernel⟩, List.mem_of_getElem? (i := 23) (by decide +kernel), List.mem_of_getElem? (i := 1419) (by decide +kernel), List.mem_of_getElem? (i := 1420) (by decide +kernel)⟩
theorem lw_p63 : lw_okq (⟨"DeadUnderstudies", "pupilTimesOf", "(I)I"⟩, 20) := ⟨⟨by decide +kernel, by decide +kernel⟩, List.mem_of_getElem? (i := 23) (by decide +kernel), List.mem_of_getElem? (i := 1436) (by decide +kernel), List.mem_of_getElem? (i := 1437) (by decide +kernel)⟩
def lw_privs_4 : List (MethodName × Nat) := [(⟨"DeadUnderstudies$Chain", "trace", "(I)V"⟩, 9), (⟨"DeadUnderstudies$Cast", "markFits", "()V"⟩, 10), (⟨"DeadUnderstudies$Cast", "countWays", "()V"⟩, 10), (⟨"DeadUnderstudies$Cast", "addWays", "(II)V"⟩, 10), (⟨"DeadUnderstudies$Cast", "findRow", "(II)Z"⟩, 10), (⟨"DeadUnderstudies$Cast", "findRowWith", "(III)Z"⟩, 10), (⟨"DeadUnderstudies$Least", "search", "(IIIZ)V"⟩, 14), (⟨"DeadUnderstudies$Least", "explore", "(III)V"⟩, 14), (⟨"DeadUnderstudies$Least", "wordsHere", "()I"⟩, 14), (⟨"DeadUnderstudies$Least", "stateBehindRow", "()I"⟩, 14), (⟨"DeadUnderstudies$Least", "wordsOf", "(I)I"⟩, 14), (⟨"DeadUnderstudies$Least", "goOn", "(III)V"⟩, 14), (⟨"DeadUnderstudies$Least", "endsRow", "(I)Z"⟩, 14), (⟨"DeadUnderstudies", "runCentury", "(III)V"⟩, 20), (⟨"DeadUnderstudies", "seedBehindLesson", "(II)I"⟩, 20), (⟨"DeadUnderstudies", "pupilTimesOf", "(I)I"⟩, 20)]
theorem lw_r4 : ∀ q ∈ lw_privs_4, lw_okq q := List.forall_mem_cons.mpr ⟨lw_p48, List.forall_mem_cons.mpr ⟨lw_p49, List.forall_mem_cons.mpr ⟨lw_p50, List.forall_mem_cons.mpr ⟨lw_p51, List.forall_mem_cons.mpr ⟨lw_p52, List.forall_mem_cons.mpr ⟨lw_p53, List.forall_mem_cons.mpr ⟨lw_p54, List.forall_mem_cons.mpr ⟨lw_p55, List.forall_mem_cons.mpr ⟨lw_p56, List.forall_mem_cons.mpr ⟨lw_p57, List.forall_mem_cons.mpr ⟨lw_p58, List.forall_mem_cons.mpr ⟨lw_p59, List.forall_mem_cons.mpr ⟨lw_p60, List.forall_mem_cons.mpr ⟨lw_p61, List.forall_mem_cons.mpr ⟨lw_p62, List.forall_mem_cons.mpr ⟨lw_p63, fun _ h => absurd h List.not_mem_nil⟩⟩⟩⟩⟩⟩⟩⟩⟩⟩⟩⟩⟩⟩⟩⟩
theorem lw_p64 : lw_okq (⟨"DeadUnderstudiesModel", "tell", "(I)I"⟩, 76) := ⟨⟨by decide +kernel, by decide +kernel⟩, List.mem_of_getElem? (i := 1472) (by decide +kernel), List.mem_of_getElem? (i := 1726) (by decide +kernel), List.mem_of_getElem? (i := 1727) (by decide +kernel)⟩
theorem lw_p65 : lw_okq (⟨"DeadUnderstudiesModel", "isPart", "(I)Z"⟩, 76) := ⟨⟨by decide +kernel, by decide +kernel⟩, List.mem_of_getElem? (i := 1472) (by decide +kernel), List.mem_of_getElem? (i := 1752) (by decide +kernel), List.mem_of_getElem? (i := 1753) (by decide +kernel)⟩
theorem lw_p66 : lw_okq (⟨"DeadUnderstudiesModel", "changeRule", "(III)I"⟩, 76) := ⟨⟨by decide +kernel, by decide +kernel⟩, List.mem_of_getElem? (i := 1472) (by decide +kernel), List.mem_of_getElem? (i := 1756) (by decide +kernel), List.mem_of_getElem? (i := 1757) (by decide +kernel)⟩
theorem lw_p67 : lw_okq (⟨"DeadUnderstudiesModel", "was", "(I)I"⟩, 76) := ⟨⟨by decide +kernel, by decide +kernel⟩, List.mem_of_getElem? (i := 1472) (by decide +kernel), List.mem_of_getElem? (i := 1763) (by decide +kernel), List.mem_of_getElem? (i := 1764) (by decide +kernel)⟩
theorem lw_p68 : lw_okq (⟨"DeadUnderstudiesModel", "told", "(I)I"⟩, 76) := ⟨⟨by decide +kernel, by decide +kernel⟩, List.mem_of_getElem? (i := 1472) (by decide +kernel), List.mem_of_getElem? (i := 1786) (by decide +kernel), List.mem_of_getElem? (i := 1787) (by decide +kernel)⟩
theorem lw_p69 : lw_okq (⟨"DeadUnderstudiesModel", "isPerson", "(I)Z"⟩, 76) := ⟨⟨by decide +kernel, by decide +kernel⟩, List.mem_of_getElem? (i := 1472) (by decide +kernel), List.mem_of_getElem? (i := 1800) (by decide +kernel), List.mem_of_getElem? (i := 1801) (by decide +kernel)⟩
theorem lw_p70 : lw_okq (⟨"DeadUnderstudiesModel", "born", "(I)I"⟩, 76) := ⟨⟨by decide +kernel, by decide +kernel⟩, List.mem_of_getElem? (i := 1472) (by decide +kernel), List.mem_of_getElem? (i := 1804) (by decide +kernel), List.mem_of_getElem? (i := 1805) (by decide +kernel)⟩
theorem lw_p71 : lw_okq (⟨"DeadUnderstudiesModel", "isAlive", "(I)Z"⟩, 76) := ⟨⟨by decide +kernel, by decide +kernel⟩, List.mem_of_getElem? (i := 1472) (by decide +kernel), List.mem_of_getElem? (i := 1812) (by decide +kernel), List.mem_of_getElem? (i := 1813) (by decide +kernel)⟩
theorem lw_p72 : lw_okq (⟨"DeadUnderstudiesModel", "dead", "(I)I"⟩, 76) := ⟨⟨by decide +kernel, by decide +kernel⟩, List.mem_of_getElem? (i := 1472) (by decide +kernel), List.mem_of_getElem? (i := 1816) (by decide +kernel), List.mem_of_getElem? (i := 1817) (by decide +kernel)⟩
theorem lw_p73 : lw_okq (⟨"DeadUnderstudiesModel", "four", "(I)V"⟩, 76) := ⟨⟨by decide +kernel, by decide +kernel⟩, List.mem_of_getElem? (i := 1472) (by decide +kernel), List.mem_of_getElem? (i := 1837) (by decide +kernel), List.mem_of_getElem? (i := 1838) (by decide +kernel)⟩
theorem lw_p74 : lw_okq (⟨"DeadUnderstudiesModel", "beginText", "(Z)V"⟩, 76) := ⟨⟨by decide +kernel, by decide +kernel⟩, List.mem_of_getElem? (i := 1472) (by decide +kernel), List.mem_of_getElem? (i := 1853) (by decide +kernel), List.mem_of_getElem? (i := 1854) (by decide +kernel)⟩
theorem lw_p75 : lw_okq (⟨"DeadUnderstudiesModel", "begin", "()V"⟩, 76) := ⟨⟨by decide +kernel, by decide +kernel⟩, List.mem_of_getElem? (i := 1472) (by decide +kernel), List.mem_of_getElem? (i := 1857) (by decide +kernel), List.mem_of_getElem? (i := 1858) (by decide +kernel)⟩
theorem lw_p76 : lw_okq (⟨"DeadUnderstudiesModel", "next", "()V"⟩, 76) := ⟨⟨by decide +kernel, by decide +kernel⟩, List.mem_of_getElem? (i := 1472) (by decide +kernel), List.mem_of_getElem? (i := 1861) (by decide +kernel), List.mem_of_getElem? (i := 1862) (by decide +kernel)⟩
theorem lw_p77 : lw_okq (⟨"DeadUnderstudiesModel", "readLaw", "()V"⟩, 76) := ⟨⟨by decide +kernel, by decide +kernel⟩, List.mem_of_getElem? (i := 1472) (by decide +kernel), List.mem_of_getElem? (i := 1877) (by decide +kernel), List.mem_of_getElem? (i := 1878) (by decide +kernel)⟩
theorem lw_p78 : lw_okq (⟨"DeadUnderstudiesModel", "isWord", "(J)Z"⟩, 76) := ⟨⟨by decide +kernel, by decide +kernel⟩, List.mem_of_getElem? (i := 1472) (by decide +kernel), List.mem_of_getElem? (i := 1882) (by decide +kernel), List.mem_of_getElem? (i := 1883) (by decide +kernel)⟩
theorem lw_p79 : lw_okq (⟨"DeadUnderstudiesModel", "must", "(Z)V"⟩, 76) := ⟨⟨by decide +kernel, by decide +kernel⟩, List.mem_of_getElem? (i := 1472) (by decide +kernel), List.mem_of_getElem? (i := 1888) (by decide +kernel), List.mem_of_getElem? (i := 1889) (by decide +kernel)⟩
def lw_privs_5 : List (MethodName × Nat) := [(⟨"DeadUnderstudiesModel", "tell", "(I)I"⟩, 76), (⟨"DeadUnderstudiesModel", "isPart", "(I)Z"⟩, 76), (⟨"DeadUnderstudiesModel", "changeRule", "(III)I"⟩, 76), (⟨"DeadUnderstudiesModel", "was", "(I)I"⟩, 76), (⟨"DeadUnderstudiesModel", "told", "(I)I"⟩, 76), (⟨"DeadUnderstudiesModel", "isPerson", "(I)Z"⟩, 76), (⟨"DeadUnderstudiesModel", "born", "(I)I"⟩, 76), (⟨"DeadUnderstudiesModel", "isAlive", "(I)Z"⟩, 76), (⟨"DeadUnderstudiesModel", "dead", "(I)I"⟩, 76), (⟨"DeadUnderstudiesModel", "four", "(I)V"⟩, 76), (⟨"DeadUnderstudiesModel", "beginText", "(Z)V"⟩, 76), (⟨"DeadUnderstudiesModel", "begin", "()V"⟩, 76), (⟨"DeadUnderstudiesModel", "next", "()V"⟩, 76), (⟨"DeadUnderstudiesModel", "readLaw", "()V"⟩, 76), (⟨"DeadUnderstudiesModel", "isWord", "(J)Z"⟩, 76), (⟨"DeadUnderstudiesModel", "must", "(Z)V"⟩, 76)]
theorem lw_r5 : ∀ q ∈ lw_privs_5, lw_okq q := List.forall_mem_cons.mpr ⟨lw_p64, List.forall_mem_cons.mpr ⟨lw_p65, List.forall_mem_cons.mpr ⟨lw_p66, List.forall_mem_cons.mpr ⟨lw_p67, List.forall_mem_cons.mpr ⟨lw_p68, List.forall_mem_cons.mpr ⟨lw_p69, List.forall_mem_cons.mpr ⟨lw_p70, List.forall_mem_cons.mpr ⟨lw_p71, List.forall_mem_cons.mpr ⟨lw_p72, List.forall_mem_cons.mpr ⟨lw_p73, List.forall_mem_cons.mpr ⟨lw_p74, List.forall_mem_cons.mpr ⟨lw_p75, List.forall_mem_cons.mpr ⟨lw_p76, List.forall_mem_cons.mpr ⟨lw_p77, List.forall_mem_cons.mpr ⟨lw_p78, List.forall_mem_cons.mpr ⟨lw_p79, fun _ h => absurd h List.not_mem_nil⟩⟩⟩⟩⟩⟩⟩⟩⟩⟩⟩⟩⟩⟩⟩⟩
theorem lw_p80 : lw_okq (⟨"DeadUnderstudiesModel", "readExpression", "(Z)V"⟩, 76) := ⟨⟨by decide +kernel, by decide +kernel⟩, List.mem_of_getElem? (i := 1472) (by decide +kernel), List.mem_of_getElem? (i := 1892) (by decide +kernel), List.mem_of_getElem? (i := 1893) (by decide +kernel)⟩
theorem lw_p81 : lw_okq (⟨"DeadUnderstudiesModel", "readPlain", "()I"⟩, 76) := ⟨⟨by decide +kernel, by decide +kernel⟩, List.mem_of_getElem? (i := 1472) (by decide +kernel), List.mem_of_getElem? (i := 1896) (by decide +kernel), List.mem_of_getElem? (i := 1897) (by decide +kernel)⟩
theorem lw_p82 : lw_okq (⟨"DeadUnderstudiesModel", "push", "(II)V"⟩, 76) := ⟨⟨by decide +kernel, by decide +kernel⟩, List.mem_of_getElem? (i := 1472) (by decide +kernel), List.mem_of_getElem? (i := 1901) (by decide +kernel), List.mem_of_getElem? (i := 1902) (by decide +kernel)⟩
theorem lw_p83 : lw_okq (⟨"DeadUnderstudiesModel", "isSign", "(I)Z"⟩, 76) := ⟨⟨by decide +kernel, by decide +kernel⟩, List.mem_of_getElem? (i := 1472) (by decide +kernel), List.mem_of_getElem? (i := 1905) (by decide +kernel), List.mem_of_getElem? (i := 1906) (by decide +kernel)⟩
theorem lw_p84 : lw_okq (⟨"DeadUnderstudiesModel", "openBracket", "(I)V"⟩, 76) := ⟨⟨by decide +kernel, by decide +kernel⟩, List.mem_of_getElem? (i := 1472) (by decide +kernel), List.mem_of_getElem? (i := 1909) (by decide +kernel), List.mem_of_getElem? (i := 1910) (by decide +kernel)⟩
theorem lw_p85 : lw_okq (⟨"DeadUnderstudiesModel", "readPart", "()I"⟩, 76) := ⟨⟨by decide +kernel, by decide +kernel⟩, List.mem_of_getElem? (i := 1472) (by decide +kernel), List.mem_of_getElem? (i := 1913) (by decide +kernel), List.mem_of_getElem? (i := 1914) (by decide +kernel)⟩
theorem lw_p86 : lw_okq (⟨"DeadUnderstudiesModel", "playPartAt", "()I"⟩, 76) := ⟨⟨by decide +kernel, by decide +kernel⟩, List.mem_of_getElem? (i := 1472) (by decide +kernel), List.mem_of_getElem? (i := 1917) (by decide +kernel), List.mem_of_getElem? (i := 1918) (by decide +kernel)⟩
theorem lw_p87 : lw_okq (⟨"DeadUnderstudiesModel", "partAt", "()I"⟩, 76) := ⟨⟨by decide +kernel, by decide +kernel⟩, List.mem_of_getElem? (i := 1472) (by decide +kernel), List.mem_of_getElem? (i := 1921) (by decide +kernel), List.mem_of_getElem? (i := 1922) (by decide +kernel)⟩
theorem lw_p88 : lw_okq (⟨"DeadUnderstudiesModel", "leaf", "(ZII)V"⟩, 76) := ⟨⟨by decide +kernel, by decide +kernel⟩, List.mem_of_getElem? (i := 1472) (by decide +kernel), List.mem_of_getElem? (i := 1926) (by decide +kernel), List.mem_of_getElem? (i := 1927) (by decide +kernel)⟩
theorem lw_p89 : lw_okq (⟨"DeadUnderstudiesModel", "emit", "(II)V"⟩, 76) := ⟨⟨by decide +kernel, by decide +kernel⟩, List.mem_of_getElem? (i := 1472) (by decide +kernel), List.mem_of_getElem? (i := 1930) (by decide +kernel), List.mem_of_getElem? (i := 1931) (by decide +kernel)⟩
theorem lw_p90 : lw_okq (⟨"DeadUnderstudiesModel", "behindSum", "(Z)I"⟩, 76) := ⟨⟨by decide +kernel, by decide +kernel⟩, List.mem_of_getElem? (i := 1472) (by decide +kernel), List.mem_of_getElem? (i := 1934) (by decide +kernel), List.mem_of_getElem? (i := 1935) (by decide +kernel)⟩
theorem lw_p91 : lw_okq (⟨"DeadUnderstudiesModel", "settle", "(I)V"⟩, 76) := ⟨⟨by decide +kernel, by decide +kernel⟩, List.mem_of_getElem? (i := 1472) (by decide +kernel), List.mem_of_getElem? (i := 1941) (by decide +kernel), List.mem_of_getElem? (i := 1942) (by decide +kernel)⟩
theorem lw_p92 : lw_okq (⟨"DeadUnderstudiesModel", "inner", "()I"⟩, 76) := ⟨⟨by decide +kernel, by decide +kernel⟩, List.mem_of_getElem? (i := 1472) (by decide +kernel), List.mem_of_getElem? (i := 1945) (by decide +kernel), List.mem_of_getElem? (i := 1946) (by decide +kernel)⟩
theorem lw_p93 : lw_okq (⟨"DeadUnderstudiesModel", "isCompared", "()Z"⟩, 76) := ⟨⟨by decide +kernel, by decide +kernel⟩, List.mem_of_getElem? (i := 1472) (by decide +kernel), List.mem_of_getElem? (i := 1949) (by decide +kernel), List.mem_of_getElem? (i := 1950) (by decide +kernel)⟩
theorem lw_p94 : lw_okq (⟨"DeadUnderstudiesModel", "behindTest", "()I"⟩, 76) := ⟨⟨by decide +kernel, by decide +kernel⟩, List.mem_of_getElem? (i := 1472) (by decide +kernel), List.mem_of_getElem? (i := 1956) (by decide +kernel), List.mem_of_getElem? (i := 1957) (by decide +kernel)⟩
theorem lw_p95 : lw_okq (⟨"DeadUnderstudiesModel", "endText", "()V"⟩, 76) := ⟨⟨by decide +kernel, by decide +kernel⟩, List.mem_of_getElem? (i := 1472) (by decide +kernel), List.mem_of_getElem? (i := 1963) (by decide +kernel), List.mem_of_getElem? (i := 1964) (by decide +kernel)⟩
def lw_privs_6 : List (MethodName × Nat) := [(⟨"DeadUnderstudiesModel", "readExpression", "(Z)V"⟩, 76), (⟨"DeadUnderstudiesModel", "readPlain", "()I"⟩, 76), (⟨"DeadUnderstudiesModel", "push", "(II)V"⟩, 76), (⟨"DeadUnderstudiesModel", "isSign", "(I)Z"⟩, 76), (⟨"DeadUnderstudiesModel", "openBracket", "(I)V"⟩, 76), (⟨"DeadUnderstudiesModel", "readPart", "()I"⟩, 76), (⟨"DeadUnderstudiesModel", "playPartAt", "()I"⟩, 76), (⟨"DeadUnderstudiesModel", "partAt", "()I"⟩, 76), (⟨"DeadUnderstudiesModel", "leaf", "(ZII)V"⟩, 76), (⟨"DeadUnderstudiesModel", "emit", "(II)V"⟩, 76), (⟨"DeadUnderstudiesModel", "behindSum", "(Z)I"⟩, 76), (⟨"DeadUnderstudiesModel", "settle", "(I)V"⟩, 76), (⟨"DeadUnderstudiesModel", "inner", "()I"⟩, 76), (⟨"DeadUnderstudiesModel", "isCompared", "()Z"⟩, 76), (⟨"DeadUnderstudiesModel", "behindTest", "()I"⟩, 76), (⟨"DeadUnderstudiesModel", "endText", "()V"⟩, 76)]
theorem lw_r6 : ∀ q ∈ lw_privs_6, lw_okq q := List.forall_mem_cons.mpr ⟨lw_p80, List.forall_mem_cons.mpr ⟨lw_p81, List.forall_mem_cons.mpr ⟨lw_p82, List.forall_mem_cons.mpr ⟨lw_p83, List.forall_mem_cons.mpr ⟨lw_p84, List.forall_mem_cons.mpr ⟨lw_p85, List.forall_mem_cons.mpr ⟨lw_p86, List.forall_mem_cons.mpr ⟨lw_p87, List.forall_mem_cons.mpr ⟨lw_p88, List.forall_mem_cons.mpr ⟨lw_p89, List.forall_mem_cons.mpr ⟨lw_p90, List.forall_mem_cons.mpr ⟨lw_p91, List.forall_mem_cons.mpr ⟨lw_p92, List.forall_mem_cons.mpr ⟨lw_p93, List.forall_mem_cons.mpr ⟨lw_p94, List.forall_mem_cons.mpr ⟨lw_p95, fun _ h => absurd h List.not_mem_nil⟩⟩⟩⟩⟩⟩⟩⟩⟩⟩⟩⟩⟩⟩⟩⟩
theorem lw_p96 : lw_okq (⟨"DeadUnderstudiesModel", "slipOf", "(IIII)I"⟩, 76) := ⟨⟨by decide +kernel, by decide +kernel⟩, List.mem_of_getElem? (i := 1472) (by decide +kernel), List.mem_of_getElem? (i := 1976) (by decide +kernel), List.mem_of_getElem? (i := 1977) (by decide +kernel)⟩
theorem lw_p97 : lw_okq (⟨"DeadUnderstudiesModel", "tells", "(IIIIIJ)J"⟩, 76) := ⟨⟨by decide +kernel, by decide +kernel⟩, List.mem_of_getElem? (i := 1472) (by decide +kernel), List.mem_of_getElem? (i := 1980) (by decide +kernel), List.mem_of_getElem? (i := 1981) (by decide +kernel)⟩
theorem lw_p98 : lw_okq (⟨"DeadUnderstudiesModel", "isSo", "(I)Z"⟩, 76) := ⟨⟨by decide +kernel, by decide +kernel⟩, List.mem_of_getElem? (i := 1472) (by decide +kernel), List.mem_of_getElem? (i := 1984) (by decide +kernel), List.mem_of_getElem? (i := 1985) (by decide +kernel)⟩
theorem lw_p99 : lw_okq (⟨"DeadUnderstudiesModel", "reckonAll", "(II)V"⟩, 76) := ⟨⟨by decide +kernel, by decide +kernel⟩, List.mem_of_getElem? (i := 1472) (by decide +kernel), List.mem_of_getElem? (i := 1988) (by decide +kernel), List.mem_of_getElem? (i := 1989) (by decide +kernel)⟩
theorem lw_p100 : lw_okq (⟨"DeadUnderstudiesModel", "reckon", "(IJJ)J"⟩, 76) := ⟨⟨by decide +kernel, by decide +kernel⟩, List.mem_of_getElem? (i := 1472) (by decide +kernel), List.mem_of_getElem? (i := 1992) (by decide +kernel), List.mem_of_getElem? (i := 1993) (by decide +kernel)⟩
theorem lw_p101 : lw_okq (⟨"DeadUnderstudiesModel", "hoursOf", "(IIII)I"⟩, 76) := ⟨⟨by decide +kernel, by decide +kernel⟩, List.mem_of_getElem? (i := 1472) (by decide +kernel), List.mem_of_getElem? (i := 2001) (by decide +kernel), List.mem_of_getElem? (i := 2002) (by decide +kernel)⟩
theorem lw_p102 : lw_okq (⟨"DeadUnderstudiesModel", "isBarred", "(IIII)Z"⟩, 76) := ⟨⟨by decide +kernel, by decide +kernel⟩, List.mem_of_getElem? (i := 1472) (by decide +kernel), List.mem_of_getElem? (i := 2005) (by decide +kernel), List.mem_of_getElem? (i := 2006) (by decide +kernel)⟩
theorem lw_p103 : lw_okq (⟨"DeadUnderstudiesModel", "readPlay", "()V"⟩, 76) := ⟨⟨by decide +kernel, by decide +kernel⟩, List.mem_of_getElem? (i := 1472) (by decide +kernel), List.mem_of_getElem? (i := 2013) (by decide +kernel), List.mem_of_getElem? (i := 2014) (by decide +kernel)⟩
theorem lw_p104 : lw_okq (⟨"DeadUnderstudiesModel", "readPlace", "()I"⟩, 76) := ⟨⟨by decide +kernel, by decide +kernel⟩, List.mem_of_getElem? (i := 1472) (by decide +kernel), List.mem_of_getElem? (i := 2018) (by decide +kernel), List.mem_of_getElem? (i := 2019) (by decide +kernel)⟩
theorem lw_p105 : lw_okq (⟨"DeadUnderstudiesModel", "number", "(JJ)I"⟩, 76) := ⟨⟨by decide +kernel, by decide +kernel⟩, List.mem_of_getElem? (i := 1472) (by decide +kernel), List.mem_of_getElem? (i := 2023) (by decide +kernel), List.mem_of_getElem? (i := 2024) (by decide +kernel)⟩
theorem lw_p106 : lw_okq (⟨"DeadUnderstudiesModel", "isPlayed", "(IIII)Z"⟩, 76) := ⟨⟨by decide +kernel, by decide +kernel⟩, List.mem_of_getElem? (i := 1472) (by decide +kernel), List.mem_of_getElem? (i := 2031) (by decide +kernel), List.mem_of_getElem? (i := 2032) (by decide +kernel)⟩
theorem lw_p107 : lw_okq (⟨"DeadUnderstudiesModel", "add", "(III)I"⟩, 76) := ⟨⟨by decide +kernel, by decide +kernel⟩, List.mem_of_getElem? (i := 1472) (by decide +kernel), List.mem_of_getElem? (i := 2047) (by decide +kernel), List.mem_of_getElem? (i := 2048) (by decide +kernel)⟩
theorem lw_p108 : lw_okq (⟨"DeadUnderstudiesModel", "isVersion", "(I)Z"⟩, 76) := ⟨⟨by decide +kernel, by decide +kernel⟩, List.mem_of_getElem? (i := 1472) (by decide +kernel), List.mem_of_getElem? (i := 2055) (by decide +kernel), List.mem_of_getElem? (i := 2056) (by decide +kernel)⟩
theorem lw_p109 : lw_okq (⟨"DeadUnderstudiesModel", "together", "(II)I"⟩, 76) := ⟨⟨by decide +kernel, by decide +kernel⟩, List.mem_of_getElem? (i := 1472) (by decide +kernel), List.mem_of_getElem? (i := 2059) (by decide +kernel), List.mem_of_getElem? (i := 2060) (by decide +kernel)⟩
theorem lw_p110 : lw_okq (⟨"DeadUnderstudiesModel", "ruleOf", "(II)I"⟩, 76) := ⟨⟨by decide +kernel, by decide +kernel⟩, List.mem_of_getElem? (i := 1472) (by decide +kernel), List.mem_of_getElem? (i := 2063) (by decide +kernel), List.mem_of_getElem? (i := 2064) (by decide +kernel)⟩
theorem lw_p111 : lw_okq (⟨"DeadUnderstudiesModel", "playCues", "(I)V"⟩, 76) := ⟨⟨by decide +kernel, by decide +kernel⟩, List.mem_of_getElem? (i := 1472) (by decide +kernel), List.mem_of_getElem? (i := 2084) (by decide +kernel), List.mem_of_getElem? (i := 2085) (by decide +kernel)⟩
def lw_privs_7 : List (MethodName × Nat) := [(⟨"DeadUnderstudiesModel", "slipOf", "(IIII)I"⟩, 76), (⟨"DeadUnderstudiesModel", "tells", "(IIIIIJ)J"⟩, 76), (⟨"DeadUnderstudiesModel", "isSo", "(I)Z"⟩, 76), (⟨"DeadUnderstudiesModel", "reckonAll", "(II)V"⟩, 76), (⟨"DeadUnderstudiesModel", "reckon", "(IJJ)J"⟩, 76), (⟨"DeadUnderstudiesModel", "hoursOf", "(IIII)I"⟩, 76), (⟨"DeadUnderstudiesModel", "isBarred", "(IIII)Z"⟩, 76), (⟨"DeadUnderstudiesModel", "readPlay", "()V"⟩, 76), (⟨"DeadUnderstudiesModel", "readPlace", "()I"⟩, 76), (⟨"DeadUnderstudiesModel", "number", "(JJ)I"⟩, 76), (⟨"DeadUnderstudiesModel", "isPlayed", "(IIII)Z"⟩, 76), (⟨"DeadUnderstudiesModel", "add", "(III)I"⟩, 76), (⟨"DeadUnderstudiesModel", "isVersion", "(I)Z"⟩, 76), (⟨"DeadUnderstudiesModel", "together", "(II)I"⟩, 76), (⟨"DeadUnderstudiesModel", "ruleOf", "(II)I"⟩, 76), (⟨"DeadUnderstudiesModel", "playCues", "(I)V"⟩, 76)]
theorem lw_r7 : ∀ q ∈ lw_privs_7, lw_okq q := List.forall_mem_cons.mpr ⟨lw_p96, List.forall_mem_cons.mpr ⟨lw_p97, List.forall_mem_cons.mpr ⟨lw_p98, List.forall_mem_cons.mpr ⟨lw_p99, List.forall_mem_cons.mpr ⟨lw_p100, List.forall_mem_cons.mpr ⟨lw_p101, List.forall_mem_cons.mpr ⟨lw_p102, List.forall_mem_cons.mpr ⟨lw_p103, List.forall_mem_cons.mpr ⟨lw_p104, List.forall_mem_cons.mpr ⟨lw_p105, List.forall_mem_cons.mpr ⟨lw_p106, List.forall_mem_cons.mpr ⟨lw_p107, List.forall_mem_cons.mpr ⟨lw_p108, List.forall_mem_cons.mpr ⟨lw_p109, List.forall_mem_cons.mpr ⟨lw_p110, List.forall_mem_cons.mpr ⟨lw_p111, fun _ h => absurd h List.not_mem_nil⟩⟩⟩⟩⟩⟩⟩⟩⟩⟩⟩⟩⟩⟩⟩⟩
theorem lw_p112 : lw_okq (⟨"DeadUnderstudiesModel", "isParted", "(II)Z"⟩, 76) := ⟨⟨by decide +kernel, by decide +kernel⟩, List.mem_of_getElem? (i := 1472) (by decide +kernel), List.mem_of_getElem? (i := 2096) (by decide +kernel), List.mem_of_getElem? (i := 2097) (by decide +kernel)⟩
theorem lw_p113 : lw_okq (⟨"DeadUnderstudiesModel", "findRow", "(II)V"⟩, 76) := ⟨⟨by decide +kernel, by decide +kernel⟩, List.mem_of_getElem? (i := 1472) (by decide +kernel), List.mem_of_getElem? (i := 2100) (by decide +kernel), List.mem_of_getElem? (i := 2101) (by decide +kernel)⟩
theorem lw_p114 : lw_okq (⟨"DeadUnderstudiesModel", "ofRow", "(ZI)I"⟩, 76) := ⟨⟨by decide +kernel, by decide +kernel⟩, List.mem_of_getElem? (i := 1472) (by decide +kernel), List.mem_of_getElem? (i := 2104) (by decide +kernel), List.mem_of_getElem? (i := 2105) (by decide +kernel)⟩
theorem lw_p115 : lw_okq (⟨"DeadUnderstudiesModel", "isTalk", "(III)Z"⟩, 76) := ⟨⟨by decide +kernel, by decide +kernel⟩, List.mem_of_getElem? (i := 1472) (by decide +kernel), List.mem_of_getElem? (i := 2116) (by decide +kernel), List.mem_of_getElem? (i := 2117) (by decide +kernel)⟩
theorem lw_p116 : lw_okq (⟨"DeadUnderstudiesModel", "findTalk", "(III)V"⟩, 76) := ⟨⟨by decide +kernel, by decide +kernel⟩, List.mem_of_getElem? (i := 1472) (by decide +kernel), List.mem_of_getElem? (i := 2121) (by decide +kernel), List.mem_of_getElem? (i := 2122) (by decide +kernel)⟩
theorem lw_p117 : lw_okq (⟨"DeadUnderstudiesModel", "most", "()I"⟩, 76) := ⟨⟨by decide +kernel, by decide +kernel⟩, List.mem_of_getElem? (i := 1472) (by decide +kernel), List.mem_of_getElem? (i := 2133) (by decide +kernel), List.mem_of_getElem? (i := 2134) (by decide +kernel)⟩
theorem lw_p118 : lw_okq (⟨"DeadUnderstudiesModel", "findOrigin", "(II)I"⟩, 76) := ⟨⟨by decide +kernel, by decide +kernel⟩, List.mem_of_getElem? (i := 1472) (by decide +kernel), List.mem_of_getElem? (i := 2146) (by decide +kernel), List.mem_of_getElem? (i := 2147) (by decide +kernel)⟩
theorem lw_p119 : lw_okq (⟨"DeadUnderstudiesModel", "mostBits", "()I"⟩, 76) := ⟨⟨by decide +kernel, by decide +kernel⟩, List.mem_of_getElem? (i := 1472) (by decide +kernel), List.mem_of_getElem? (i := 2150) (by decide +kernel), List.mem_of_getElem? (i := 2151) (by decide +kernel)⟩
theorem lw_p120 : lw_okq (⟨"DeadUnderstudiesModel", "findPupils", "(I)V"⟩, 76) := ⟨⟨by decide +kernel, by decide +kernel⟩, List.mem_of_getElem? (i := 1472) (by decide +kernel), List.mem_of_getElem? (i := 2163) (by decide +kernel), List.mem_of_getElem? (i := 2164) (by decide +kernel)⟩
theorem lw_p121 : lw_okq (⟨"DeadUnderstudiesModel", "findCome", "(II)V"⟩, 76) := ⟨⟨by decide +kernel, by decide +kernel⟩, List.mem_of_getElem? (i := 1472) (by decide +kernel), List.mem_of_getElem? (i := 2167) (by decide +kernel), List.mem_of_getElem? (i := 2168) (by decide +kernel)⟩
theorem lw_p122 : lw_okq (⟨"DeadUnderstudiesModel", "lastOf", "()I"⟩, 76) := ⟨⟨by decide +kernel, by decide +kernel⟩, List.mem_of_getElem? (i := 1472) (by decide +kernel), List.mem_of_getElem? (i := 2174) (by decide +kernel), List.mem_of_getElem? (i := 2175) (by decide +kernel)⟩
theorem lw_p123 : lw_okq (⟨"DeadUnderstudiesModel", "lengthTo", "(I)I"⟩, 76) := ⟨⟨by decide +kernel, by decide +kernel⟩, List.mem_of_getElem? (i := 1472) (by decide +kernel), List.mem_of_getElem? (i := 2178) (by decide +kernel), List.mem_of_getElem? (i := 2179) (by decide +kernel)⟩
theorem lw_p124 : lw_okq (⟨"DeadUnderstudiesModel", "findCast", "()V"⟩, 76) := ⟨⟨by decide +kernel, by decide +kernel⟩, List.mem_of_getElem? (i := 1472) (by decide +kernel), List.mem_of_getElem? (i := 2186) (by decide +kernel), List.mem_of_getElem? (i := 2187) (by decide +kernel)⟩
theorem lw_p125 : lw_okq (⟨"DeadUnderstudiesModel", "keepCast", "(I)V"⟩, 76) := ⟨⟨by decide +kernel, by decide +kernel⟩, List.mem_of_getElem? (i := 1472) (by decide +kernel), List.mem_of_getElem? (i := 2191) (by decide +kernel), List.mem_of_getElem? (i := 2192) (by decide +kernel)⟩
theorem lw_p126 : lw_okq (⟨"DeadUnderstudiesModel", "canPlay", "(I)Z"⟩, 76) := ⟨⟨by decide +kernel, by decide +kernel⟩, List.mem_of_getElem? (i := 1472) (by decide +kernel), List.mem_of_getElem? (i := 2195) (by decide +kernel), List.mem_of_getElem? (i := 2196) (by decide +kernel)⟩
theorem lw_p127 : lw_okq (⟨"DeadUnderstudiesModel", "areTogether", "(II)Z"⟩, 76) := ⟨⟨by decide +kernel, by decide +kernel⟩, List.mem_of_getElem? (i := 1472) (by decide +kernel), List.mem_of_getElem? (i := 2199) (by decide +kernel), List.mem_of_getElem? (i := 2200) (by decide +kernel)⟩
def lw_privs_8 : List (MethodName × Nat) := [(⟨"DeadUnderstudiesModel", "isParted", "(II)Z"⟩, 76), (⟨"DeadUnderstudiesModel", "findRow", "(II)V"⟩, 76), (⟨"DeadUnderstudiesModel", "ofRow", "(ZI)I"⟩, 76), (⟨"DeadUnderstudiesModel", "isTalk", "(III)Z"⟩, 76), (⟨"DeadUnderstudiesModel", "findTalk", "(III)V"⟩, 76), (⟨"DeadUnderstudiesModel", "most", "()I"⟩, 76), (⟨"DeadUnderstudiesModel", "findOrigin", "(II)I"⟩, 76), (⟨"DeadUnderstudiesModel", "mostBits", "()I"⟩, 76), (⟨"DeadUnderstudiesModel", "findPupils", "(I)V"⟩, 76), (⟨"DeadUnderstudiesModel", "findCome", "(II)V"⟩, 76), (⟨"DeadUnderstudiesModel", "lastOf", "()I"⟩, 76), (⟨"DeadUnderstudiesModel", "lengthTo", "(I)I"⟩, 76), (⟨"DeadUnderstudiesModel", "findCast", "()V"⟩, 76), (⟨"DeadUnderstudiesModel", "keepCast", "(I)V"⟩, 76), (⟨"DeadUnderstudiesModel", "canPlay", "(I)Z"⟩, 76), (⟨"DeadUnderstudiesModel", "areTogether", "(II)Z"⟩, 76)]
theorem lw_r8 : ∀ q ∈ lw_privs_8, lw_okq q := List.forall_mem_cons.mpr ⟨lw_p112, List.forall_mem_cons.mpr ⟨lw_p113, List.forall_mem_cons.mpr ⟨lw_p114, List.forall_mem_cons.mpr ⟨lw_p115, List.forall_mem_cons.mpr ⟨lw_p116, List.forall_mem_cons.mpr ⟨lw_p117, List.forall_mem_cons.mpr ⟨lw_p118, List.forall_mem_cons.mpr ⟨lw_p119, List.forall_mem_cons.mpr ⟨lw_p120, List.forall_mem_cons.mpr ⟨lw_p121, List.forall_mem_cons.mpr ⟨lw_p122, List.forall_mem_cons.mpr ⟨lw_p123, List.forall_mem_cons.mpr ⟨lw_p124, List.forall_mem_cons.mpr ⟨lw_p125, List.forall_mem_cons.mpr ⟨lw_p126, List.forall_mem_cons.mpr ⟨lw_p127, fun _ h => absurd h List.not_mem_nil⟩⟩⟩⟩⟩⟩⟩⟩⟩⟩⟩⟩⟩⟩⟩⟩
theorem lw_p128 : lw_okq (⟨"DeadUnderstudiesModel", "findLeast", "(II)I"⟩, 76) := ⟨⟨by decide +kernel, by decide +kernel⟩, List.mem_of_getElem? (i := 1472) (by decide +kernel), List.mem_of_getElem? (i := 2219) (by decide +kernel), List.mem_of_getElem? (i := 2220) (by decide +kernel)⟩
theorem lw_p129 : lw_okq (⟨"DeadUnderstudiesModel", "findOrder", "()V"⟩, 76) := ⟨⟨by decide +kernel, by decide +kernel⟩, List.mem_of_getElem? (i := 1472) (by decide +kernel), List.mem_of_getElem? (i := 2223) (by decide +kernel), List.mem_of_getElem? (i := 2224) (by decide +kernel)⟩
theorem lw_p130 : lw_okq (⟨"DeadUnderstudiesModel", "findWays", "(III)V"⟩, 76) := ⟨⟨by decide +kernel, by decide +kernel⟩, List.mem_of_getElem? (i := 1472) (by decide +kernel), List.mem_of_getElem? (i := 2227) (by decide +kernel), List.mem_of_getElem? (i := 2228) (by decide +kernel)⟩
theorem lw_p131 : lw_okq (⟨"DeadUnderstudiesModel", "meet", "(III)V"⟩, 76) := ⟨⟨by decide +kernel, by decide +kernel⟩, List.mem_of_getElem? (i := 1472) (by decide +kernel), List.mem_of_getElem? (i := 2231) (by decide +kernel), List.mem_of_getElem? (i := 2232) (by decide +kernel)⟩
theorem lw_p132 : lw_okq (⟨"DeadUnderstudiesModel", "isLast", "(I)Z"⟩, 76) := ⟨⟨by decide +kernel, by decide +kernel⟩, List.mem_of_getElem? (i := 1472) (by decide +kernel), List.mem_of_getElem? (i := 2235) (by decide +kernel), List.mem_of_getElem? (i := 2236) (by decide +kernel)⟩
theorem lw_p133 : lw_okq (⟨"DeadUnderstudiesModel", "takeBack", "(I)V"⟩, 76) := ⟨⟨by decide +kernel, by decide +kernel⟩, List.mem_of_getElem? (i := 1472) (by decide +kernel), List.mem_of_getElem? (i := 2239) (by decide +kernel), List.mem_of_getElem? (i := 2240) (by decide +kernel)⟩
theorem lw_p134 : lw_okq (⟨"DeadUnderstudiesModel", "goesOn", "(II)Z"⟩, 76) := ⟨⟨by decide +kernel, by decide +kernel⟩, List.mem_of_getElem? (i := 1472) (by decide +kernel), List.mem_of_getElem? (i := 2243) (by decide +kernel), List.mem_of_getElem? (i := 2244) (by decide +kernel)⟩
theorem lw_p135 : lw_okq (⟨"DeadUnderstudiesModel", "draw", "(I)I"⟩, 76) := ⟨⟨by decide +kernel, by decide +kernel⟩, List.mem_of_getElem? (i := 1472) (by decide +kernel), List.mem_of_getElem? (i := 2255) (by decide +kernel), List.mem_of_getElem? (i := 2256) (by decide +kernel)⟩
def lw_privs_9 : List (MethodName × Nat) := [(⟨"DeadUnderstudiesModel", "findLeast", "(II)I"⟩, 76), (⟨"DeadUnderstudiesModel", "findOrder", "()V"⟩, 76), (⟨"DeadUnderstudiesModel", "findWays", "(III)V"⟩, 76), (⟨"DeadUnderstudiesModel", "meet", "(III)V"⟩, 76), (⟨"DeadUnderstudiesModel", "isLast", "(I)Z"⟩, 76), (⟨"DeadUnderstudiesModel", "takeBack", "(I)V"⟩, 76), (⟨"DeadUnderstudiesModel", "goesOn", "(II)Z"⟩, 76), (⟨"DeadUnderstudiesModel", "draw", "(I)I"⟩, 76)]
theorem lw_r9 : ∀ q ∈ lw_privs_9, lw_okq q := List.forall_mem_cons.mpr ⟨lw_p128, List.forall_mem_cons.mpr ⟨lw_p129, List.forall_mem_cons.mpr ⟨lw_p130, List.forall_mem_cons.mpr ⟨lw_p131, List.forall_mem_cons.mpr ⟨lw_p132, List.forall_mem_cons.mpr ⟨lw_p133, List.forall_mem_cons.mpr ⟨lw_p134, List.forall_mem_cons.mpr ⟨lw_p135, fun _ h => absurd h List.not_mem_nil⟩⟩⟩⟩⟩⟩⟩⟩
def lw_privs : List (MethodName × Nat) := lw_privs_1 ++ (lw_privs_2 ++ (lw_privs_3 ++ (lw_privs_4 ++ (lw_privs_5 ++ (lw_privs_6 ++ (lw_privs_7 ++ (lw_privs_8 ++ (lw_privs_9))))))))
def lw_tbl : List Cond := k2_sels lw_privs ++ tables_1
theorem lw_privs_ok : ∀ q ∈ lw_privs, lw_okq q := by
  show ∀ q ∈ lw_privs_1 ++ (lw_privs_2 ++ (lw_privs_3 ++ (lw_privs_4 ++ (lw_privs_5 ++ (lw_privs_6 ++ (lw_privs_7 ++ (lw_privs_8 ++ (lw_privs_9)))))))), lw_okq q
  exact List.forall_mem_append.mpr ⟨lw_r1, List.forall_mem_append.mpr ⟨lw_r2, List.forall_mem_append.mpr ⟨lw_r3, List.forall_mem_append.mpr ⟨lw_r4, List.forall_mem_append.mpr ⟨lw_r5, List.forall_mem_append.mpr ⟨lw_r6, List.forall_mem_append.mpr ⟨lw_r7, List.forall_mem_append.mpr ⟨lw_r8, lw_r9⟩⟩⟩⟩⟩⟩⟩⟩
-- ===== end of PART A =====
end
section
/-! NAMES: out of claim/NAMES.whole.lean.txt, the rows of the classes' names, fields and methods -/
def RX0 : String := "DeadUnderstudies$Cast"
def TX0 : u_T := fun k => match k with
  | 0 => ("DeadUnderstudies$Cast", "parts", "I", false)
  | 1 => ("DeadUnderstudies$Cast", "people", "I", false)
  | 2 => ("DeadUnderstudies$Cast", "allowed", "[I", true)
  | 3 => ("DeadUnderstudies$Cast", "clashes", "[I", true)
  | 4 => ("DeadUnderstudies$Cast", "fits", "[Z", true)
  | 5 => ("DeadUnderstudies$Cast", "ways", "[I", true)
  | 6 => ("DeadUnderstudies$Cast", "playing", "[I", true)
  | 7 => ("DeadUnderstudies$Cast", "row", "[I", true)
  | 8 => ("DeadUnderstudies$Cast", "fewest", "I", false)
  | _ => ("DeadUnderstudies$Cast", "rows", "I", false)
def tyX0 : Nat → FieldType := fun k => match k with
  | 0 => .int
  | 1 => .int
  | 2 => .array .int
  | 3 => .array .int
  | 4 => .array .boolean
  | 5 => .array .int
  | 6 => .array .int
  | 7 => .array .int
  | 8 => .int
  | _ => .int
abbrev wsX00 : List Cond := u_ws RX0 TX0 10
theorem nmX0 : ∀ a, a < 10 → ∀ b, b < 10 → a ≠ b → (TX0 a).2.1 ≠ (TX0 b).2.1 := by decide +kernel
theorem tyX0_ok : ∀ k, k < 10 → parseFieldDescriptor (TX0 k).2.2.1 = some (tyX0 k) := by decide +kernel
abbrev cX0_init : ByteArray := prog_2_method_1_code
def yX0_init : MethodName := ⟨RX0, "<init>", "()V"⟩
abbrev cX0_lay : ByteArray := prog_2_method_2_code
def yX0_lay : MethodName := ⟨RX0, "lay", "(LDeadUnderstudies$Town;)V"⟩
abbrev cX0_solve : ByteArray := prog_2_method_3_code
def yX0_solve : MethodName := ⟨RX0, "solve", "()V"⟩
abbrev cX0_markFits : ByteArray := prog_2_method_4_code
def yX0_markFits : MethodName := ⟨RX0, "markFits", "()V"⟩
abbrev cX0_countWays : ByteArray := prog_2_method_5_code
def yX0_countWays : MethodName := ⟨RX0, "countWays", "()V"⟩
abbrev cX0_addWays : ByteArray := prog_2_method_6_code
def yX0_addWays : MethodName := ⟨RX0, "addWays", "(II)V"⟩
abbrev cX0_findRow : ByteArray := prog_2_method_7_code
def yX0_findRow : MethodName := ⟨RX0, "findRow", "(II)Z"⟩
abbrev cX0_findRowWith : ByteArray := prog_2_method_8_code
def yX0_findRowWith : MethodName := ⟨RX0, "findRowWith", "(III)Z"⟩
abbrev cX0_playerOf : ByteArray := prog_2_method_9_code
def yX0_playerOf : MethodName := ⟨RX0, "playerOf", "(I)I"⟩
def RX1 : String := "DeadUnderstudies$Chain"
def TX1 : u_T := fun k => match k with
  | 0 => ("DeadUnderstudies$Chain", "people", "LDeadUnderstudies$People;", false)
  | 1 => ("DeadUnderstudies$Chain", "mayTeach", "[Z", true)
  | 2 => ("DeadUnderstudies$Chain", "queue", "[I", true)
  | 3 => ("DeadUnderstudies$Chain", "aheadOf", "[I", true)
  | 4 => ("DeadUnderstudies$Chain", "row", "[I", true)
  | 5 => ("DeadUnderstudies$Chain", "met", "I", false)
  | 6 => ("DeadUnderstudies$Chain", "waiting", "I", false)
  | 7 => ("DeadUnderstudies$Chain", "latest", "I", false)
  | _ => ("DeadUnderstudies$Chain", "length", "I", false)
def tyX1 : Nat → FieldType := fun k => match k with
  | 0 => .object "DeadUnderstudies$People"
  | 1 => .array .boolean
  | 2 => .array .int
  | 3 => .array .int
  | 4 => .array .int
  | 5 => .int
  | 6 => .int
  | 7 => .int
  | _ => .int
abbrev wsX10 : List Cond := u_ws RX1 TX1 9
theorem nmX1 : ∀ a, a < 9 → ∀ b, b < 9 → a ≠ b → (TX1 a).2.1 ≠ (TX1 b).2.1 := by decide +kernel
theorem tyX1_ok : ∀ k, k < 9 → parseFieldDescriptor (TX1 k).2.2.1 = some (tyX1 k) := by decide +kernel
abbrev cX1_init : ByteArray := prog_3_method_1_code
def yX1_init : MethodName := ⟨RX1, "<init>", "()V"⟩
abbrev cX1_lay : ByteArray := prog_3_method_2_code
def yX1_lay : MethodName := ⟨RX1, "lay", "(LDeadUnderstudies$Town;I)V"⟩
abbrev cX1_seek : ByteArray := prog_3_method_3_code
def yX1_seek : MethodName := ⟨RX1, "seek", "(II)V"⟩
abbrev cX1_join : ByteArray := prog_3_method_4_code
def yX1_join : MethodName := ⟨RX1, "join", "(II)V"⟩
abbrev cX1_trace : ByteArray := prog_3_method_5_code
def yX1_trace : MethodName := ⟨RX1, "trace", "(I)V"⟩
abbrev cX1_personAt : ByteArray := prog_3_method_6_code
def yX1_personAt : MethodName := ⟨RX1, "personAt", "(I)I"⟩
abbrev cX1_needless : ByteArray := prog_3_method_7_code
def yX1_needless : MethodName := ⟨RX1, "needless", "(I)I"⟩
def RX2 : String := "DeadUnderstudies$Deeds"
def TX2 : u_T := fun k => match k with
  | 0 => ("DeadUnderstudies$Deeds", "number", "I", false)
  | 1 => ("DeadUnderstudies$Deeds", "rows", "[I", true)
  | 2 => ("DeadUnderstudies$Deeds", "cues", "[I", true)
  | 3 => ("DeadUnderstudies$Deeds", "words", "[I", true)
  | _ => ("DeadUnderstudies$Deeds", "states", "[I", true)
def tyX2 : Nat → FieldType := fun k => match k with
  | 0 => .int
  | 1 => .array .int
  | 2 => .array .int
  | 3 => .array .int
  | _ => .array .int
abbrev wsX20 : List Cond := u_ws RX2 TX2 5
theorem nmX2 : ∀ a, a < 5 → ∀ b, b < 5 → a ≠ b → (TX2 a).2.1 ≠ (TX2 b).2.1 := by decide +kernel
theorem tyX2_ok : ∀ k, k < 5 → parseFieldDescriptor (TX2 k).2.2.1 = some (tyX2 k) := by decide +kernel
abbrev cX2_init : ByteArray := prog_4_method_1_code
def yX2_init : MethodName := ⟨RX2, "<init>", "()V"⟩
abbrev cX2_add : ByteArray := prog_4_method_2_code
def yX2_add : MethodName := ⟨RX2, "add", "(III)I"⟩
abbrev cX2_copyFrom : ByteArray := prog_4_method_3_code
def yX2_copyFrom : MethodName := ⟨RX2, "copyFrom", "(LDeadUnderstudies$Deeds;)V"⟩
abbrev cX2_firstNotSo : ByteArray := prog_4_method_4_code
def yX2_firstNotSo : MethodName := ⟨RX2, "firstNotSo", "(LDeadUnderstudies$Script;)I"⟩
def RX3 : String := "DeadUnderstudies$Duet"
def TX3 : u_T := fun k => match k with
  | 0 => ("DeadUnderstudies$Duet", "first", "LDeadUnderstudies$Script;", true)
  | 1 => ("DeadUnderstudies$Duet", "second", "LDeadUnderstudies$Script;", true)
  | 2 => ("DeadUnderstudies$Duet", "alone", "Z", false)
  | 3 => ("DeadUnderstudies$Duet", "firstState", "I", false)
  | 4 => ("DeadUnderstudies$Duet", "secondState", "I", false)
  | 5 => ("DeadUnderstudies$Duet", "firstTurn", "Z", false)
  | 6 => ("DeadUnderstudies$Duet", "cue", "I", false)
  | 7 => ("DeadUnderstudies$Duet", "seen", "[I", true)
  | 8 => ("DeadUnderstudies$Duet", "base", "I", false)
  | 9 => ("DeadUnderstudies$Duet", "stopsBehind", "I", false)
  | 10 => ("DeadUnderstudies$Duet", "ahead", "I", false)
  | 11 => ("DeadUnderstudies$Duet", "round", "I", false)
  | 12 => ("DeadUnderstudies$Duet", "ways", "I", false)
  | 13 => ("DeadUnderstudies$Duet", "mendWord", "I", false)
  | _ => ("DeadUnderstudies$Duet", "mendNext", "I", false)
def tyX3 : Nat → FieldType := fun k => match k with
  | 0 => .object "DeadUnderstudies$Script"
  | 1 => .object "DeadUnderstudies$Script"
  | 2 => .boolean
  | 3 => .int
  | 4 => .int
  | 5 => .boolean
  | 6 => .int
  | 7 => .array .int
  | 8 => .int
  | 9 => .int
  | 10 => .int
  | 11 => .int
  | 12 => .int
  | 13 => .int
  | _ => .int
abbrev wsX30 : List Cond := u_ws RX3 TX3 15
theorem nmX3 : ∀ a, a < 15 → ∀ b, b < 15 → a ≠ b → (TX3 a).2.1 ≠ (TX3 b).2.1 := by decide +kernel
theorem tyX3_ok : ∀ k, k < 15 → parseFieldDescriptor (TX3 k).2.2.1 = some (tyX3 k) := by decide +kernel
abbrev cX3_init : ByteArray := prog_5_method_1_code
def yX3_init : MethodName := ⟨RX3, "<init>", "()V"⟩
abbrev cX3_seat : ByteArray := prog_5_method_2_code
def yX3_seat : MethodName := ⟨RX3, "seat", "(LDeadUnderstudies$Script;LDeadUnderstudies$Script;Z)V"⟩
abbrev cX3_start : ByteArray := prog_5_method_3_code
def yX3_start : MethodName := ⟨RX3, "start", "(I)V"⟩
abbrev cX3_speaker : ByteArray := prog_5_method_4_code
def yX3_speaker : MethodName := ⟨RX3, "speaker", "()LDeadUnderstudies$Script;"⟩
abbrev cX3_speakerState : ByteArray := prog_5_method_5_code
def yX3_speakerState : MethodName := ⟨RX3, "speakerState", "()I"⟩
abbrev cX3_speak : ByteArray := prog_5_method_6_code
def yX3_speak : MethodName := ⟨RX3, "speak", "()I"⟩
abbrev cX3_place : ByteArray := prog_5_method_7_code
def yX3_place : MethodName := ⟨RX3, "place", "()I"⟩
abbrev cX3_run : ByteArray := prog_5_method_8_code
def yX3_run : MethodName := ⟨RX3, "run", "(I)V"⟩
abbrev cX3_wordBehind : ByteArray := prog_5_method_9_code
def yX3_wordBehind : MethodName := ⟨RX3, "wordBehind", "(II)I"⟩
abbrev cX3_mend : ByteArray := prog_5_method_10_code
def yX3_mend : MethodName := ⟨RX3, "mend", "(I)V"⟩
abbrev cX3_addMend : ByteArray := prog_5_method_11_code
def yX3_addMend : MethodName := ⟨RX3, "addMend", "(II)V"⟩
def RX4 : String := "DeadUnderstudies$Least"
def TX4 : u_T := fun k => match k with
  | 0 => ("DeadUnderstudies$Least", "number", "I", false)
  | 1 => ("DeadUnderstudies$Least", "rows", "[I", true)
  | 2 => ("DeadUnderstudies$Least", "cues", "[I", true)
  | 3 => ("DeadUnderstudies$Least", "words", "[I", true)
  | 4 => ("DeadUnderstudies$Least", "lastOfRow", "[I", true)
  | 5 => ("DeadUnderstudies$Least", "limit", "I", false)
  | 6 => ("DeadUnderstudies$Least", "askedRow", "I", false)
  | 7 => ("DeadUnderstudies$Least", "askedCue", "I", false)
  | 8 => ("DeadUnderstudies$Least", "oneIsEnough", "Z", false)
  | 9 => ("DeadUnderstudies$Least", "ways", "I", false)
  | 10 => ("DeadUnderstudies$Least", "bits", "I", false)
  | 11 => ("DeadUnderstudies$Least", "stateAt", "[I", true)
  | 12 => ("DeadUnderstudies$Least", "said", "[I", true)
  | _ => ("DeadUnderstudies$Least", "goes", "[I", true)
def tyX4 : Nat → FieldType := fun k => match k with
  | 0 => .int
  | 1 => .array .int
  | 2 => .array .int
  | 3 => .array .int
  | 4 => .array .int
  | 5 => .int
  | 6 => .int
  | 7 => .int
  | 8 => .boolean
  | 9 => .int
  | 10 => .int
  | 11 => .array .int
  | 12 => .array .int
  | _ => .array .int
abbrev wsX40 : List Cond := u_ws RX4 TX4 14
theorem nmX4 : ∀ a, a < 14 → ∀ b, b < 14 → a ≠ b → (TX4 a).2.1 ≠ (TX4 b).2.1 := by decide +kernel
theorem tyX4_ok : ∀ k, k < 14 → parseFieldDescriptor (TX4 k).2.2.1 = some (tyX4 k) := by decide +kernel
abbrev cX4_init : ByteArray := prog_6_method_1_code
def yX4_init : MethodName := ⟨RX4, "<init>", "()V"⟩
abbrev cX4_lay : ByteArray := prog_6_method_2_code
def yX4_lay : MethodName := ⟨RX4, "lay", "(LDeadUnderstudies$Deeds;)V"⟩
abbrev cX4_fewestStates : ByteArray := prog_6_method_3_code
def yX4_fewestStates : MethodName := ⟨RX4, "fewestStates", "()I"⟩
abbrev cX4_countWays : ByteArray := prog_6_method_4_code
def yX4_countWays : MethodName := ⟨RX4, "countWays", "(I)I"⟩
abbrev cX4_wordsBehind : ByteArray := prog_6_method_5_code
def yX4_wordsBehind : MethodName := ⟨RX4, "wordsBehind", "(III)I"⟩
abbrev cX4_search : ByteArray := prog_6_method_6_code
def yX4_search : MethodName := ⟨RX4, "search", "(IIIZ)V"⟩
abbrev cX4_explore : ByteArray := prog_6_method_7_code
def yX4_explore : MethodName := ⟨RX4, "explore", "(III)V"⟩
abbrev cX4_goOn : ByteArray := prog_6_method_8_code
def yX4_goOn : MethodName := ⟨RX4, "goOn", "(III)V"⟩
abbrev cX4_endsRow : ByteArray := prog_6_method_9_code
def yX4_endsRow : MethodName := ⟨RX4, "endsRow", "(I)Z"⟩
abbrev cX4_ruleAt : ByteArray := prog_6_method_10_code
def yX4_ruleAt : MethodName := ⟨RX4, "ruleAt", "(II)I"⟩
abbrev cX4_wordsHere : ByteArray := prog_6_method_11_code
def yX4_wordsHere : MethodName := ⟨RX4, "wordsHere", "()I"⟩
abbrev cX4_stateBehindRow : ByteArray := prog_6_method_12_code
def yX4_stateBehindRow : MethodName := ⟨RX4, "stateBehindRow", "()I"⟩
abbrev cX4_wordsOf : ByteArray := prog_6_method_13_code
def yX4_wordsOf : MethodName := ⟨RX4, "wordsOf", "(I)I"⟩
def RX5 : String := "DeadUnderstudies$People"
def TX5 : u_T := fun k => match k with
  | 0 => ("DeadUnderstudies$People", "number", "I", false)
  | 1 => ("DeadUnderstudies$People", "born", "[I", true)
  | 2 => ("DeadUnderstudies$People", "dead", "[I", true)
  | _ => ("DeadUnderstudies$People", "memory", "[I", true)
def tyX5 : Nat → FieldType := fun k => match k with
  | 0 => .int
  | 1 => .array .int
  | 2 => .array .int
  | _ => .array .int
abbrev wsX50 : List Cond := u_ws RX5 TX5 4
theorem nmX5 : ∀ a, a < 4 → ∀ b, b < 4 → a ≠ b → (TX5 a).2.1 ≠ (TX5 b).2.1 := by decide +kernel
theorem tyX5_ok : ∀ k, k < 4 → parseFieldDescriptor (TX5 k).2.2.1 = some (tyX5 k) := by decide +kernel
abbrev cX5_init : ByteArray := prog_7_method_1_code
def yX5_init : MethodName := ⟨RX5, "<init>", "()V"⟩
abbrev cX5_has : ByteArray := prog_7_method_2_code
def yX5_has : MethodName := ⟨RX5, "has", "(I)Z"⟩
abbrev cX5_add : ByteArray := prog_7_method_3_code
def yX5_add : MethodName := ⟨RX5, "add", "(III)I"⟩
abbrev cX5_copyFrom : ByteArray := prog_7_method_4_code
def yX5_copyFrom : MethodName := ⟨RX5, "copyFrom", "(LDeadUnderstudies$People;)V"⟩
abbrev cX5_isAlive : ByteArray := prog_7_method_5_code
def yX5_isAlive : MethodName := ⟨RX5, "isAlive", "(II)Z"⟩
abbrev cX5_firstYearTogether : ByteArray := prog_7_method_6_code
def yX5_firstYearTogether : MethodName := ⟨RX5, "firstYearTogether", "(II)I"⟩
abbrev cX5_yearsTogether : ByteArray := prog_7_method_7_code
def yX5_yearsTogether : MethodName := ⟨RX5, "yearsTogether", "(II)I"⟩
def RX6 : String := "DeadUnderstudies$Program"
def TX6 : u_T := fun k => match k with
  | 0 => ("DeadUnderstudies$Program", "size", "I", false)
  | 1 => ("DeadUnderstudies$Program", "steps", "[I", true)
  | 2 => ("DeadUnderstudies$Program", "items", "[I", true)
  | 3 => ("DeadUnderstudies$Program", "stack", "[J", true)
  | 4 => ("DeadUnderstudies$Program", "clauses", "I", false)
  | 5 => ("DeadUnderstudies$Program", "kinds", "[I", true)
  | 6 => ("DeadUnderstudies$Program", "states", "[I", true)
  | 7 => ("DeadUnderstudies$Program", "cues", "[I", true)
  | 8 => ("DeadUnderstudies$Program", "sums", "[I", true)
  | 9 => ("DeadUnderstudies$Program", "goes", "[I", true)
  | _ => ("DeadUnderstudies$Program", "tests", "[I", true)
def tyX6 : Nat → FieldType := fun k => match k with
  | 0 => .int
  | 1 => .array .int
  | 2 => .array .int
  | 3 => .array .long
  | 4 => .int
  | 5 => .array .int
  | 6 => .array .int
  | 7 => .array .int
  | 8 => .array .int
  | 9 => .array .int
  | _ => .array .int
abbrev wsX60 : List Cond := u_ws RX6 TX6 11
theorem nmX6 : ∀ a, a < 11 → ∀ b, b < 11 → a ≠ b → (TX6 a).2.1 ≠ (TX6 b).2.1 := by decide +kernel
theorem tyX6_ok : ∀ k, k < 11 → parseFieldDescriptor (TX6 k).2.2.1 = some (tyX6 k) := by decide +kernel
abbrev cX6_init : ByteArray := prog_8_method_1_code
def yX6_init : MethodName := ⟨RX6, "<init>", "()V"⟩
abbrev cX6_clear : ByteArray := prog_8_method_2_code
def yX6_clear : MethodName := ⟨RX6, "clear", "()V"⟩
abbrev cX6_copyFrom : ByteArray := prog_8_method_3_code
def yX6_copyFrom : MethodName := ⟨RX6, "copyFrom", "(LDeadUnderstudies$Program;)V"⟩
abbrev cX6_openClause : ByteArray := prog_8_method_4_code
def yX6_openClause : MethodName := ⟨RX6, "openClause", "(III)V"⟩
abbrev cX6_startHere : ByteArray := prog_8_method_5_code
def yX6_startHere : MethodName := ⟨RX6, "startHere", "([I)V"⟩
abbrev cX6_emit : ByteArray := prog_8_method_6_code
def yX6_emit : MethodName := ⟨RX6, "emit", "(II)V"⟩
abbrev cX6_leapToHere : ByteArray := prog_8_method_7_code
def yX6_leapToHere : MethodName := ⟨RX6, "leapToHere", "(I)V"⟩
abbrev cX6_isAt : ByteArray := prog_8_method_8_code
def yX6_isAt : MethodName := ⟨RX6, "isAt", "(III)Z"⟩
abbrev cX6_isSo : ByteArray := prog_8_method_9_code
def yX6_isSo : MethodName := ⟨RX6, "isSo", "(I[I)Z"⟩
abbrev cX6_tell : ByteArray := prog_8_method_10_code
def yX6_tell : MethodName := ⟨RX6, "tell", "(I[I)J"⟩
abbrev cX6_valueOf : ByteArray := prog_8_method_11_code
def yX6_valueOf : MethodName := ⟨RX6, "valueOf", "(I[I)J"⟩
abbrev cX6_combine : ByteArray := prog_8_method_12_code
def yX6_combine : MethodName := ⟨RX6, "combine", "(IJJ)J"⟩
def RX7 : String := "DeadUnderstudies$Reader"
def TX7 : u_T := fun k => match k with
  | 0 => ("DeadUnderstudies$Reader", "tape", "[I", false)
  | 1 => ("DeadUnderstudies$Reader", "length", "I", false)
  | 2 => ("DeadUnderstudies$Reader", "start", "I", false)
  | 3 => ("DeadUnderstudies$Reader", "stop", "I", false)
  | 4 => ("DeadUnderstudies$Reader", "faultPlace", "I", false)
  | 5 => ("DeadUnderstudies$Reader", "isPlay", "Z", false)
  | 6 => ("DeadUnderstudies$Reader", "program", "LDeadUnderstudies$Program;", false)
  | 7 => ("DeadUnderstudies$Reader", "partsRead", "I", false)
  | 8 => ("DeadUnderstudies$Reader", "brackets", "I", false)
  | 9 => ("DeadUnderstudies$Reader", "stages", "[I", true)
  | 10 => ("DeadUnderstudies$Reader", "waiting", "I", false)
  | 11 => ("DeadUnderstudies$Reader", "waitingSteps", "[I", true)
  | _ => ("DeadUnderstudies$Reader", "waitingLeaps", "[I", true)
def tyX7 : Nat → FieldType := fun k => match k with
  | 0 => .array .int
  | 1 => .int
  | 2 => .int
  | 3 => .int
  | 4 => .int
  | 5 => .boolean
  | 6 => .object "DeadUnderstudies$Program"
  | 7 => .int
  | 8 => .int
  | 9 => .array .int
  | 10 => .int
  | 11 => .array .int
  | _ => .array .int
abbrev wsX70 : List Cond := u_ws RX7 TX7 13
theorem nmX7 : ∀ a, a < 13 → ∀ b, b < 13 → a ≠ b → (TX7 a).2.1 ≠ (TX7 b).2.1 := by decide +kernel
theorem tyX7_ok : ∀ k, k < 13 → parseFieldDescriptor (TX7 k).2.2.1 = some (tyX7 k) := by decide +kernel
abbrev cX7_init : ByteArray := prog_9_method_1_code
def yX7_init : MethodName := ⟨RX7, "<init>", "()V"⟩
abbrev cX7_read : ByteArray := prog_9_method_2_code
def yX7_read : MethodName := ⟨RX7, "read", "([IIZLDeadUnderstudies$Program;)Z"⟩
abbrev cX7_readPlayClause : ByteArray := prog_9_method_3_code
def yX7_readPlayClause : MethodName := ⟨RX7, "readPlayClause", "()Z"⟩
abbrev cX7_readLawClause : ByteArray := prog_9_method_4_code
def yX7_readLawClause : MethodName := ⟨RX7, "readLawClause", "()Z"⟩
abbrev cX7_readIf : ByteArray := prog_9_method_5_code
def yX7_readIf : MethodName := ⟨RX7, "readIf", "()Z"⟩
abbrev cX7_readExpression : ByteArray := prog_9_method_6_code
def yX7_readExpression : MethodName := ⟨RX7, "readExpression", "([II)Z"⟩
abbrev cX7_isPart : ByteArray := prog_9_method_7_code
def yX7_isPart : MethodName := ⟨RX7, "isPart", "()Z"⟩
abbrev cX7_readPart : ByteArray := prog_9_method_8_code
def yX7_readPart : MethodName := ⟨RX7, "readPart", "()Z"⟩
abbrev cX7_readOpening : ByteArray := prog_9_method_9_code
def yX7_readOpening : MethodName := ⟨RX7, "readOpening", "()Z"⟩
abbrev cX7_openSum : ByteArray := prog_9_method_10_code
def yX7_openSum : MethodName := ⟨RX7, "openSum", "()V"⟩
abbrev cX7_isClosing : ByteArray := prog_9_method_11_code
def yX7_isClosing : MethodName := ⟨RX7, "isClosing", "()Z"⟩
abbrev cX7_readClosing : ByteArray := prog_9_method_12_code
def yX7_readClosing : MethodName := ⟨RX7, "readClosing", "()V"⟩
abbrev cX7_isWholeTest : ByteArray := prog_9_method_13_code
def yX7_isWholeTest : MethodName := ⟨RX7, "isWholeTest", "()Z"⟩
abbrev cX7_stageHere : ByteArray := prog_9_method_14_code
def yX7_stageHere : MethodName := ⟨RX7, "stageHere", "()I"⟩
abbrev cX7_setStage : ByteArray := prog_9_method_15_code
def yX7_setStage : MethodName := ⟨RX7, "setStage", "(I)V"⟩
abbrev cX7_operatorHere : ByteArray := prog_9_method_16_code
def yX7_operatorHere : MethodName := ⟨RX7, "operatorHere", "()I"⟩
abbrev cX7_readOperator : ByteArray := prog_9_method_17_code
def yX7_readOperator : MethodName := ⟨RX7, "readOperator", "(I)V"⟩
abbrev cX7_closeExpression : ByteArray := prog_9_method_18_code
def yX7_closeExpression : MethodName := ⟨RX7, "closeExpression", "()Z"⟩
abbrev cX7_push : ByteArray := prog_9_method_19_code
def yX7_push : MethodName := ⟨RX7, "push", "(II)V"⟩
abbrev cX7_reduce : ByteArray := prog_9_method_20_code
def yX7_reduce : MethodName := ⟨RX7, "reduce", "(I)V"⟩
abbrev cX7_strength : ByteArray := prog_9_method_21_code
def yX7_strength : MethodName := ⟨RX7, "strength", "(I)I"⟩
abbrev cX7_nameHere : ByteArray := prog_9_method_22_code
def yX7_nameHere : MethodName := ⟨RX7, "nameHere", "()I"⟩
abbrev cX7_placeHere : ByteArray := prog_9_method_23_code
def yX7_placeHere : MethodName := ⟨RX7, "placeHere", "()I"⟩
abbrev cX7_fail : ByteArray := prog_9_method_24_code
def yX7_fail : MethodName := ⟨RX7, "fail", "()Z"⟩
abbrev cX7_takeWord : ByteArray := prog_9_method_25_code
def yX7_takeWord : MethodName := ⟨RX7, "takeWord", "(Ljava/lang/String;)Z"⟩
abbrev cX7_advance : ByteArray := prog_9_method_26_code
def yX7_advance : MethodName := ⟨RX7, "advance", "()V"⟩
abbrev cX7_isLetter : ByteArray := prog_9_method_27_code
def yX7_isLetter : MethodName := ⟨RX7, "isLetter", "(I)Z"⟩
abbrev cX7_isDigit : ByteArray := prog_9_method_28_code
def yX7_isDigit : MethodName := ⟨RX7, "isDigit", "(I)Z"⟩
abbrev cX7_isSign : ByteArray := prog_9_method_29_code
def yX7_isSign : MethodName := ⟨RX7, "isSign", "(C)Z"⟩
abbrev cX7_isWord : ByteArray := prog_9_method_30_code
def yX7_isWord : MethodName := ⟨RX7, "isWord", "(Ljava/lang/String;)Z"⟩
abbrev cX7_numberHere : ByteArray := prog_9_method_31_code
def yX7_numberHere : MethodName := ⟨RX7, "numberHere", "()I"⟩
def RX8 : String := "DeadUnderstudies$Route"
def TX8 : u_T := fun k => match k with
  | 0 => ("DeadUnderstudies$Route", "queue", "[I", true)
  | 1 => ("DeadUnderstudies$Route", "aheadOf", "[I", true)
  | 2 => ("DeadUnderstudies$Route", "cueTo", "[I", true)
  | 3 => ("DeadUnderstudies$Route", "cues", "[I", true)
  | 4 => ("DeadUnderstudies$Route", "met", "J", false)
  | 5 => ("DeadUnderstudies$Route", "waiting", "I", false)
  | _ => ("DeadUnderstudies$Route", "length", "I", false)
def tyX8 : Nat → FieldType := fun k => match k with
  | 0 => .array .int
  | 1 => .array .int
  | 2 => .array .int
  | 3 => .array .int
  | 4 => .long
  | 5 => .int
  | _ => .int
abbrev wsX80 : List Cond := u_ws RX8 TX8 7
theorem nmX8 : ∀ a, a < 7 → ∀ b, b < 7 → a ≠ b → (TX8 a).2.1 ≠ (TX8 b).2.1 := by decide +kernel
theorem tyX8_ok : ∀ k, k < 7 → parseFieldDescriptor (TX8 k).2.2.1 = some (tyX8 k) := by decide +kernel
abbrev cX8_init : ByteArray := prog_10_method_1_code
def yX8_init : MethodName := ⟨RX8, "<init>", "()V"⟩
abbrev cX8_seek : ByteArray := prog_10_method_2_code
def yX8_seek : MethodName := ⟨RX8, "seek", "(LDeadUnderstudies$Script;LDeadUnderstudies$Script;Z)V"⟩
abbrev cX8_join : ByteArray := prog_10_method_3_code
def yX8_join : MethodName := ⟨RX8, "join", "(III)V"⟩
abbrev cX8_trace : ByteArray := prog_10_method_4_code
def yX8_trace : MethodName := ⟨RX8, "trace", "(II)V"⟩
abbrev cX8_cueAt : ByteArray := prog_10_method_5_code
def yX8_cueAt : MethodName := ⟨RX8, "cueAt", "(I)I"⟩
def RX9 : String := "DeadUnderstudies$Script"
def TX9 : u_T := fun k => match k with
  | 0 => ("DeadUnderstudies$Script", "words", "[I", true)
  | _ => ("DeadUnderstudies$Script", "nexts", "[I", true)
def tyX9 : Nat → FieldType := fun k => match k with
  | 0 => .array .int
  | _ => .array .int
abbrev wsX90 : List Cond := u_ws RX9 TX9 2
theorem nmX9 : ∀ a, a < 2 → ∀ b, b < 2 → a ≠ b → (TX9 a).2.1 ≠ (TX9 b).2.1 := by decide +kernel
theorem tyX9_ok : ∀ k, k < 2 → parseFieldDescriptor (TX9 k).2.2.1 = some (tyX9 k) := by decide +kernel
abbrev cX9_init : ByteArray := prog_11_method_1_code
def yX9_init : MethodName := ⟨RX9, "<init>", "()V"⟩
abbrev cX9_clear : ByteArray := prog_11_method_2_code
def yX9_clear : MethodName := ⟨RX9, "clear", "()V"⟩
abbrev cX9_copyFrom : ByteArray := prog_11_method_3_code
def yX9_copyFrom : MethodName := ⟨RX9, "copyFrom", "(LDeadUnderstudies$Script;)V"⟩
abbrev cX9_wordAt : ByteArray := prog_11_method_4_code
def yX9_wordAt : MethodName := ⟨RX9, "wordAt", "(II)I"⟩
abbrev cX9_nextAt : ByteArray := prog_11_method_5_code
def yX9_nextAt : MethodName := ⟨RX9, "nextAt", "(II)I"⟩
abbrev cX9_setRule : ByteArray := prog_11_method_6_code
def yX9_setRule : MethodName := ⟨RX9, "setRule", "(IIII)V"⟩
abbrev cX9_changeWord : ByteArray := prog_11_method_7_code
def yX9_changeWord : MethodName := ⟨RX9, "changeWord", "(III)V"⟩
abbrev cX9_makeHole : ByteArray := prog_11_method_8_code
def yX9_makeHole : MethodName := ⟨RX9, "makeHole", "(II)V"⟩
abbrev cX9_filled : ByteArray := prog_11_method_9_code
def yX9_filled : MethodName := ⟨RX9, "filled", "()I"⟩
abbrev cX9_wordsUnlike : ByteArray := prog_11_method_10_code
def yX9_wordsUnlike : MethodName := ⟨RX9, "wordsUnlike", "(LDeadUnderstudies$Script;)I"⟩
abbrev cX9_rulesUnlike : ByteArray := prog_11_method_11_code
def yX9_rulesUnlike : MethodName := ⟨RX9, "rulesUnlike", "(LDeadUnderstudies$Script;)I"⟩
def RX10 : String := "DeadUnderstudies$Town"
def TX10 : u_T := fun k => match k with
  | 0 => ("DeadUnderstudies$Town", "parts", "I", false)
  | 1 => ("DeadUnderstudies$Town", "from", "[I", true)
  | 2 => ("DeadUnderstudies$Town", "till", "[I", true)
  | 3 => ("DeadUnderstudies$Town", "partScripts", "[LDeadUnderstudies$Script;", true)
  | 4 => ("DeadUnderstudies$Town", "people", "LDeadUnderstudies$People;", true)
  | 5 => ("DeadUnderstudies$Town", "versions", "I", false)
  | 6 => ("DeadUnderstudies$Town", "versionPart", "[I", true)
  | 7 => ("DeadUnderstudies$Town", "holder", "[I", true)
  | 8 => ("DeadUnderstudies$Town", "teacher", "[I", true)
  | 9 => ("DeadUnderstudies$Town", "versionScripts", "[LDeadUnderstudies$Script;", true)
  | 10 => ("DeadUnderstudies$Town", "cues", "I", false)
  | 11 => ("DeadUnderstudies$Town", "cueRow", "[I", true)
  | 12 => ("DeadUnderstudies$Town", "deeds", "LDeadUnderstudies$Deeds;", true)
  | 13 => ("DeadUnderstudies$Town", "terms", "[I", true)
  | 14 => ("DeadUnderstudies$Town", "laws", "I", false)
  | 15 => ("DeadUnderstudies$Town", "inForce", "I", false)
  | 16 => ("DeadUnderstudies$Town", "lawTexts", "[LDeadUnderstudies$Program;", true)
  | 17 => ("DeadUnderstudies$Town", "heard", "[I", true)
  | _ => ("DeadUnderstudies$Town", "values", "[I", true)
def tyX10 : Nat → FieldType := fun k => match k with
  | 0 => .int
  | 1 => .array .int
  | 2 => .array .int
  | 3 => .array (.object "DeadUnderstudies$Script")
  | 4 => .object "DeadUnderstudies$People"
  | 5 => .int
  | 6 => .array .int
  | 7 => .array .int
  | 8 => .array .int
  | 9 => .array (.object "DeadUnderstudies$Script")
  | 10 => .int
  | 11 => .array .int
  | 12 => .object "DeadUnderstudies$Deeds"
  | 13 => .array .int
  | 14 => .int
  | 15 => .int
  | 16 => .array (.object "DeadUnderstudies$Program")
  | 17 => .array .int
  | _ => .array .int
abbrev wsX100 : List Cond := u_ws RX10 TX10 19
theorem nmX10 : ∀ a, a < 19 → ∀ b, b < 19 → a ≠ b → (TX10 a).2.1 ≠ (TX10 b).2.1 := by decide +kernel
theorem tyX10_ok : ∀ k, k < 19 → parseFieldDescriptor (TX10 k).2.2.1 = some (tyX10 k) := by decide +kernel
abbrev cX10_init : ByteArray := prog_12_method_1_code
def yX10_init : MethodName := ⟨RX10, "<init>", "()V"⟩
abbrev cX10_copyFrom : ByteArray := prog_12_method_2_code
def yX10_copyFrom : MethodName := ⟨RX10, "copyFrom", "(LDeadUnderstudies$Town;)V"⟩
abbrev cX10_hasPart : ByteArray := prog_12_method_3_code
def yX10_hasPart : MethodName := ⟨RX10, "hasPart", "(I)Z"⟩
abbrev cX10_hasVersion : ByteArray := prog_12_method_4_code
def yX10_hasVersion : MethodName := ⟨RX10, "hasVersion", "(I)Z"⟩
abbrev cX10_hasLaw : ByteArray := prog_12_method_5_code
def yX10_hasLaw : MethodName := ⟨RX10, "hasLaw", "(I)Z"⟩
abbrev cX10_scriptOfPart : ByteArray := prog_12_method_6_code
def yX10_scriptOfPart : MethodName := ⟨RX10, "scriptOfPart", "(I)LDeadUnderstudies$Script;"⟩
abbrev cX10_scriptOfVersion : ByteArray := prog_12_method_7_code
def yX10_scriptOfVersion : MethodName := ⟨RX10, "scriptOfVersion", "(I)LDeadUnderstudies$Script;"⟩
abbrev cX10_addPart : ByteArray := prog_12_method_8_code
def yX10_addPart : MethodName := ⟨RX10, "addPart", "(II)I"⟩
abbrev cX10_addVersion : ByteArray := prog_12_method_9_code
def yX10_addVersion : MethodName := ⟨RX10, "addVersion", "(III)I"⟩
abbrev cX10_addLaw : ByteArray := prog_12_method_10_code
def yX10_addLaw : MethodName := ⟨RX10, "addLaw", "(LDeadUnderstudies$Program;)I"⟩
abbrev cX10_addCue : ByteArray := prog_12_method_11_code
def yX10_addCue : MethodName := ⟨RX10, "addCue", "(I)I"⟩
abbrev cX10_versionsOf : ByteArray := prog_12_method_12_code
def yX10_versionsOf : MethodName := ⟨RX10, "versionsOf", "(I)I"⟩
abbrev cX10_isAlive : ByteArray := prog_12_method_13_code
def yX10_isAlive : MethodName := ⟨RX10, "isAlive", "(I)Z"⟩
abbrev cX10_mayBegin : ByteArray := prog_12_method_14_code
def yX10_mayBegin : MethodName := ⟨RX10, "mayBegin", "(II)Z"⟩
abbrev cX10_mayLearn : ByteArray := prog_12_method_15_code
def yX10_mayLearn : MethodName := ⟨RX10, "mayLearn", "(II)Z"⟩
abbrev cX10_isTaught : ByteArray := prog_12_method_16_code
def yX10_isTaught : MethodName := ⟨RX10, "isTaught", "(IIII)Z"⟩
abbrev cX10_hear : ByteArray := prog_12_method_17_code
def yX10_hear : MethodName := ⟨RX10, "hear", "(IIII)V"⟩
abbrev cX10_hearClause : ByteArray := prog_12_method_18_code
def yX10_hearClause : MethodName := ⟨RX10, "hearClause", "(LDeadUnderstudies$Program;I)V"⟩
abbrev cX10_perform : ByteArray := prog_12_method_19_code
def yX10_perform : MethodName := ⟨RX10, "perform", "(LDeadUnderstudies$Program;I)I"⟩
abbrev cX10_performAt : ByteArray := prog_12_method_20_code
def yX10_performAt : MethodName := ⟨RX10, "performAt", "(LDeadUnderstudies$Program;IIII)Z"⟩
abbrev cX10_wordAtCue : ByteArray := prog_12_method_21_code
def yX10_wordAtCue : MethodName := ⟨RX10, "wordAtCue", "(LDeadUnderstudies$Script;I)I"⟩
abbrev cX10_watch : ByteArray := prog_12_method_22_code
def yX10_watch : MethodName := ⟨RX10, "watch", "(LDeadUnderstudies$Script;LDeadUnderstudies$Script;I)V"⟩
abbrev cX10_countVotes : ByteArray := prog_12_method_23_code
def yX10_countVotes : MethodName := ⟨RX10, "countVotes", "(I[I)V"⟩
abbrev cX10_countTellers : ByteArray := prog_12_method_24_code
def yX10_countTellers : MethodName := ⟨RX10, "countTellers", "(III[I)V"⟩
def RX11 : String := "DeadUnderstudies"
def TX11 : u_T := fun k => match k with
  | 0 => ("DeadUnderstudies", "town", "LDeadUnderstudies$Town;", true)
  | 1 => ("DeadUnderstudies", "images", "[LDeadUnderstudies$Town;", true)
  | 2 => ("DeadUnderstudies", "kept", "[Z", true)
  | 3 => ("DeadUnderstudies", "tape", "[I", true)
  | 4 => ("DeadUnderstudies", "tapeBytes", "I", false)
  | 5 => ("DeadUnderstudies", "reader", "LDeadUnderstudies$Reader;", true)
  | 6 => ("DeadUnderstudies", "draft", "LDeadUnderstudies$Program;", true)
  | 7 => ("DeadUnderstudies", "prattleRules", "I", false)
  | 8 => ("DeadUnderstudies", "refusedBy", "I", false)
  | 9 => ("DeadUnderstudies", "refusals", "[I", true)
  | 10 => ("DeadUnderstudies", "route", "LDeadUnderstudies$Route;", true)
  | 11 => ("DeadUnderstudies", "duet", "LDeadUnderstudies$Duet;", true)
  | 12 => ("DeadUnderstudies", "leastPart", "LDeadUnderstudies$Least;", true)
  | 13 => ("DeadUnderstudies", "pupilChain", "LDeadUnderstudies$Chain;", true)
  | 14 => ("DeadUnderstudies", "roles", "LDeadUnderstudies$Cast;", true)
  | 15 => ("DeadUnderstudies", "ballots", "[I", true)
  | 16 => ("DeadUnderstudies", "centuryKept", "Z", false)
  | 17 => ("DeadUnderstudies", "centuryScript", "LDeadUnderstudies$Script;", true)
  | 18 => ("DeadUnderstudies", "pupilTimes", "[I", true)
  | _ => ("DeadUnderstudies", "centuryPeople", "I", false)
def tyX11 : Nat → FieldType := fun k => match k with
  | 0 => .object "DeadUnderstudies$Town"
  | 1 => .array (.object "DeadUnderstudies$Town")
  | 2 => .array .boolean
  | 3 => .array .int
  | 4 => .int
  | 5 => .object "DeadUnderstudies$Reader"
  | 6 => .object "DeadUnderstudies$Program"
  | 7 => .int
  | 8 => .int
  | 9 => .array .int
  | 10 => .object "DeadUnderstudies$Route"
  | 11 => .object "DeadUnderstudies$Duet"
  | 12 => .object "DeadUnderstudies$Least"
  | 13 => .object "DeadUnderstudies$Chain"
  | 14 => .object "DeadUnderstudies$Cast"
  | 15 => .array .int
  | 16 => .boolean
  | 17 => .object "DeadUnderstudies$Script"
  | 18 => .array .int
  | _ => .int
abbrev wsX110 : List Cond := u_ws RX11 TX11 20
theorem nmX11 : ∀ a, a < 20 → ∀ b, b < 20 → a ≠ b → (TX11 a).2.1 ≠ (TX11 b).2.1 := by decide +kernel
theorem tyX11_ok : ∀ k, k < 20 → parseFieldDescriptor (TX11 k).2.2.1 = some (tyX11 k) := by decide +kernel
abbrev cX11_init : ByteArray := prog_1_method_1_code
def yX11_init : MethodName := ⟨RX11, "<init>", "()V"⟩
abbrev cX11_part : ByteArray := prog_1_method_2_code
def yX11_part : MethodName := ⟨RX11, "part", "(II)I"⟩
abbrev cX11_rule : ByteArray := prog_1_method_3_code
def yX11_rule : MethodName := ⟨RX11, "rule", "(IIIII)I"⟩
abbrev cX11_hush : ByteArray := prog_1_method_4_code
def yX11_hush : MethodName := ⟨RX11, "hush", "(III)I"⟩
abbrev cX11_of : ByteArray := prog_1_method_5_code
def yX11_of : MethodName := ⟨RX11, "of", "(IIII)I"⟩
abbrev cX11_stage : ByteArray := prog_1_method_6_code
def yX11_stage : MethodName := ⟨RX11, "stage", "(II)I"⟩
abbrev cX11_person : ByteArray := prog_1_method_7_code
def yX11_person : MethodName := ⟨RX11, "person", "(III)I"⟩
abbrev cX11_put : ByteArray := prog_1_method_8_code
def yX11_put : MethodName := ⟨RX11, "put", "(III)I"⟩
abbrev cX11_fact : ByteArray := prog_1_method_9_code
def yX11_fact : MethodName := ⟨RX11, "fact", "(II)I"⟩
abbrev cX11_terms : ByteArray := prog_1_method_10_code
def yX11_terms : MethodName := ⟨RX11, "terms", "(II)I"⟩
abbrev cX11_feed : ByteArray := prog_1_method_11_code
def yX11_feed : MethodName := ⟨RX11, "feed", "(IIIII)I"⟩
abbrev cX11_end : ByteArray := prog_1_method_12_code
def yX11_end : MethodName := ⟨RX11, "end", "(I)I"⟩
abbrev cX11_row : ByteArray := prog_1_method_13_code
def yX11_row : MethodName := ⟨RX11, "row", "(I)I"⟩
abbrev cX11_prattle : ByteArray := prog_1_method_14_code
def yX11_prattle : MethodName := ⟨RX11, "prattle", "()I"⟩
abbrev cX11_play : ByteArray := prog_1_method_15_code
def yX11_play : MethodName := ⟨RX11, "play", "(I)I"⟩
abbrev cX11_law : ByteArray := prog_1_method_16_code
def yX11_law : MethodName := ⟨RX11, "law", "()I"⟩
abbrev cX11_fault : ByteArray := prog_1_method_17_code
def yX11_fault : MethodName := ⟨RX11, "fault", "()I"⟩
abbrev cX11_force : ByteArray := prog_1_method_18_code
def yX11_force : MethodName := ⟨RX11, "force", "(I)I"⟩
abbrev cX11_asks : ByteArray := prog_1_method_19_code
def yX11_asks : MethodName := ⟨RX11, "asks", "(IIII)I"⟩
abbrev cX11_cue : ByteArray := prog_1_method_20_code
def yX11_cue : MethodName := ⟨RX11, "cue", "(I)I"⟩
abbrev cX11_still : ByteArray := prog_1_method_21_code
def yX11_still : MethodName := ⟨RX11, "still", "()I"⟩
abbrev cX11_begin : ByteArray := prog_1_method_22_code
def yX11_begin : MethodName := ⟨RX11, "begin", "(II)I"⟩
abbrev cX11_learn : ByteArray := prog_1_method_23_code
def yX11_learn : MethodName := ⟨RX11, "learn", "(III)I"⟩
abbrev cX11_undo : ByteArray := prog_1_method_24_code
def yX11_undo : MethodName := ⟨RX11, "undo", "()I"⟩
abbrev cX11_version : ByteArray := prog_1_method_25_code
def yX11_version : MethodName := ⟨RX11, "version", "(II)I"⟩
abbrev cX11_knows : ByteArray := prog_1_method_26_code
def yX11_knows : MethodName := ⟨RX11, "knows", "(IIII)I"⟩
abbrev cX11_says : ByteArray := prog_1_method_27_code
def yX11_says : MethodName := ⟨RX11, "says", "(II)I"⟩
abbrev cX11_stops : ByteArray := prog_1_method_28_code
def yX11_stops : MethodName := ⟨RX11, "stops", "(I)I"⟩
abbrev cX11_apart : ByteArray := prog_1_method_29_code
def yX11_apart : MethodName := ⟨RX11, "apart", "(III)I"⟩
abbrev cX11_trap : ByteArray := prog_1_method_30_code
def yX11_trap : MethodName := ⟨RX11, "trap", "(II)I"⟩
abbrev cX11_talk : ByteArray := prog_1_method_31_code
def yX11_talk : MethodName := ⟨RX11, "talk", "(IIII)I"⟩
abbrev cX11_mends : ByteArray := prog_1_method_32_code
def yX11_mends : MethodName := ⟨RX11, "mends", "(IIII)I"⟩
abbrev cX11_vote : ByteArray := prog_1_method_33_code
def yX11_vote : MethodName := ⟨RX11, "vote", "(II)I"⟩
abbrev cX11_drift : ByteArray := prog_1_method_34_code
def yX11_drift : MethodName := ⟨RX11, "drift", "(II)J"⟩
abbrev cX11_origin : ByteArray := prog_1_method_35_code
def yX11_origin : MethodName := ⟨RX11, "origin", "(III)I"⟩
abbrev cX11_origins : ByteArray := prog_1_method_36_code
def yX11_origins : MethodName := ⟨RX11, "origins", "(II)J"⟩
abbrev cX11_chain : ByteArray := prog_1_method_37_code
def yX11_chain : MethodName := ⟨RX11, "chain", "(III)I"⟩
abbrev cX11_cast : ByteArray := prog_1_method_38_code
def yX11_cast : MethodName := ⟨RX11, "cast", "(I)I"⟩
abbrev cX11_deed : ByteArray := prog_1_method_39_code
def yX11_deed : MethodName := ⟨RX11, "deed", "(III)I"⟩
abbrev cX11_forget : ByteArray := prog_1_method_40_code
def yX11_forget : MethodName := ⟨RX11, "forget", "()I"⟩
abbrev cX11_judge : ByteArray := prog_1_method_41_code
def yX11_judge : MethodName := ⟨RX11, "judge", "(I)I"⟩
abbrev cX11_least : ByteArray := prog_1_method_42_code
def yX11_least : MethodName := ⟨RX11, "least", "(I)I"⟩
abbrev cX11_would : ByteArray := prog_1_method_43_code
def yX11_would : MethodName := ⟨RX11, "would", "(II)I"⟩
abbrev cX11_century : ByteArray := prog_1_method_44_code
def yX11_century : MethodName := ⟨RX11, "century", "(III)I"⟩
abbrev cX11_drawn : ByteArray := prog_1_method_45_code
def yX11_drawn : MethodName := ⟨RX11, "drawn", "(III)I"⟩
abbrev cX11_image : ByteArray := prog_1_method_46_code
def yX11_image : MethodName := ⟨RX11, "image", "(I)I"⟩
abbrev cX11_back : ByteArray := prog_1_method_47_code
def yX11_back : MethodName := ⟨RX11, "back", "(I)I"⟩
abbrev cX11_count : ByteArray := prog_1_method_48_code
def yX11_count : MethodName := ⟨RX11, "count", "(I)I"⟩
abbrev cX11_status : ByteArray := prog_1_method_49_code
def yX11_status : MethodName := ⟨RX11, "status", "()I"⟩
abbrev cX11_accept : ByteArray := prog_1_method_50_code
def yX11_accept : MethodName := ⟨RX11, "accept", "(I)I"⟩
abbrev cX11_refuse : ByteArray := prog_1_method_51_code
def yX11_refuse : MethodName := ⟨RX11, "refuse", "(I)I"⟩
abbrev cX11_isRule : ByteArray := prog_1_method_52_code
def yX11_isRule : MethodName := ⟨RX11, "isRule", "(II)Z"⟩
abbrev cX11_isYear : ByteArray := prog_1_method_53_code
def yX11_isYear : MethodName := ⟨RX11, "isYear", "(I)Z"⟩
abbrev cX11_isMemory : ByteArray := prog_1_method_54_code
def yX11_isMemory : MethodName := ⟨RX11, "isMemory", "(I)Z"⟩
abbrev cX11_mostOfTerm : ByteArray := prog_1_method_55_code
def yX11_mostOfTerm : MethodName := ⟨RX11, "mostOfTerm", "(I)I"⟩
abbrev cX11_oneMore : ByteArray := prog_1_method_56_code
def yX11_oneMore : MethodName := ⟨RX11, "oneMore", "(I)I"⟩
abbrev cX11_nearest : ByteArray := prog_1_method_57_code
def yX11_nearest : MethodName := ⟨RX11, "nearest", "(JI)I"⟩
abbrev cX11_ruleFact : ByteArray := prog_1_method_58_code
def yX11_ruleFact : MethodName := ⟨RX11, "ruleFact", "(LDeadUnderstudies$Script;III)I"⟩
abbrev cX11_putBytes : ByteArray := prog_1_method_59_code
def yX11_putBytes : MethodName := ⟨RX11, "putBytes", "(I)V"⟩
abbrev cX11_takeRuleAt : ByteArray := prog_1_method_60_code
def yX11_takeRuleAt : MethodName := ⟨RX11, "takeRuleAt", "(ILDeadUnderstudies$Script;)Z"⟩
abbrev cX11_seatDuet : ByteArray := prog_1_method_61_code
def yX11_seatDuet : MethodName := ⟨RX11, "seatDuet", "(III)Z"⟩
abbrev cX11_mostVotes : ByteArray := prog_1_method_62_code
def yX11_mostVotes : MethodName := ⟨RX11, "mostVotes", "()I"⟩
abbrev cX11_allVotes : ByteArray := prog_1_method_63_code
def yX11_allVotes : MethodName := ⟨RX11, "allVotes", "()I"⟩
abbrev cX11_firstWordWith : ByteArray := prog_1_method_64_code
def yX11_firstWordWith : MethodName := ⟨RX11, "firstWordWith", "(I)I"⟩
abbrev cX11_wordsWith : ByteArray := prog_1_method_65_code
def yX11_wordsWith : MethodName := ⟨RX11, "wordsWith", "(I)I"⟩
abbrev cX11_timesAtMost : ByteArray := prog_1_method_66_code
def yX11_timesAtMost : MethodName := ⟨RX11, "timesAtMost", "(JI)J"⟩
abbrev cX11_chances : ByteArray := prog_1_method_67_code
def yX11_chances : MethodName := ⟨RX11, "chances", "(III)J"⟩
abbrev cX11_runCentury : ByteArray := prog_1_method_68_code
def yX11_runCentury : MethodName := ⟨RX11, "runCentury", "(III)V"⟩
abbrev cX11_pupilTimesOf : ByteArray := prog_1_method_69_code
def yX11_pupilTimesOf : MethodName := ⟨RX11, "pupilTimesOf", "(I)I"⟩
abbrev cX11_seedBehindLesson : ByteArray := prog_1_method_70_code
def yX11_seedBehindLesson : MethodName := ⟨RX11, "seedBehindLesson", "(II)I"⟩
abbrev cX11_nextSeed : ByteArray := prog_1_method_71_code
def yX11_nextSeed : MethodName := ⟨RX11, "nextSeed", "(I)I"⟩
def RX12 : String := "DeadUnderstudiesModel"
def TX12 : u_T := fun k => match k with
  | 0 => ("DeadUnderstudiesModel", "thrown", "I", false)
  | 1 => ("DeadUnderstudiesModel", "status", "I", false)
  | 2 => ("DeadUnderstudiesModel", "refusals", "[I", true)
  | 3 => ("DeadUnderstudiesModel", "row", "[I", true)
  | 4 => ("DeadUnderstudiesModel", "images", "[I", true)
  | 5 => ("DeadUnderstudiesModel", "isKept", "[Z", true)
  | 6 => ("DeadUnderstudiesModel", "prattle", "I", false)
  | 7 => ("DeadUnderstudiesModel", "tape", "[I", true)
  | 8 => ("DeadUnderstudiesModel", "taped", "I", false)
  | 9 => ("DeadUnderstudiesModel", "from", "I", false)
  | 10 => ("DeadUnderstudiesModel", "to", "I", false)
  | 11 => ("DeadUnderstudiesModel", "sort", "I", false)
  | 12 => ("DeadUnderstudiesModel", "worth", "J", false)
  | 13 => ("DeadUnderstudiesModel", "fault", "I", false)
  | 14 => ("DeadUnderstudiesModel", "bad", "Z", false)
  | 15 => ("DeadUnderstudiesModel", "played", "Z", false)
  | 16 => ("DeadUnderstudiesModel", "nClauses", "I", false)
  | 17 => ("DeadUnderstudiesModel", "nClause", "[I", true)
  | 18 => ("DeadUnderstudiesModel", "nCode", "I", false)
  | 19 => ("DeadUnderstudiesModel", "nOp", "[I", true)
  | 20 => ("DeadUnderstudiesModel", "nArg", "[I", true)
  | 21 => ("DeadUnderstudiesModel", "nLeaves", "I", false)
  | 22 => ("DeadUnderstudiesModel", "pile", "[I", true)
  | 23 => ("DeadUnderstudiesModel", "pileAt", "[I", true)
  | 24 => ("DeadUnderstudiesModel", "piled", "I", false)
  | 25 => ("DeadUnderstudiesModel", "opened", "I", false)
  | 26 => ("DeadUnderstudiesModel", "words", "[J", true)
  | 27 => ("DeadUnderstudiesModel", "playWords", "[J", true)
  | 28 => ("DeadUnderstudiesModel", "law", "I", false)
  | 29 => ("DeadUnderstudiesModel", "set", "[J", true)
  | 30 => ("DeadUnderstudiesModel", "now", "[J", true)
  | 31 => ("DeadUnderstudiesModel", "rest", "[J", true)
  | 32 => ("DeadUnderstudiesModel", "broken", "Z", false)
  | 33 => ("DeadUnderstudiesModel", "value", "J", false)
  | 34 => ("DeadUnderstudiesModel", "sum", "J", false)
  | 35 => ("DeadUnderstudiesModel", "nPlay", "[I", true)
  | 36 => ("DeadUnderstudiesModel", "said", "[I", true)
  | 37 => ("DeadUnderstudiesModel", "stoppedAt", "I", false)
  | 38 => ("DeadUnderstudiesModel", "pairs", "[I", true)
  | 39 => ("DeadUnderstudiesModel", "before", "[I", true)
  | 40 => ("DeadUnderstudiesModel", "byCue", "[I", true)
  | 41 => ("DeadUnderstudiesModel", "lowest", "[I", true)
  | 42 => ("DeadUnderstudiesModel", "nLowest", "I", false)
  | 43 => ("DeadUnderstudiesModel", "when", "[I", true)
  | 44 => ("DeadUnderstudiesModel", "words1", "[I", true)
  | 45 => ("DeadUnderstudiesModel", "stopWords", "I", false)
  | 46 => ("DeadUnderstudiesModel", "aheadWords", "I", false)
  | 47 => ("DeadUnderstudiesModel", "roundWords", "I", false)
  | 48 => ("DeadUnderstudiesModel", "hole", "I", false)
  | 49 => ("DeadUnderstudiesModel", "holder", "I", false)
  | 50 => ("DeadUnderstudiesModel", "votes", "[I", true)
  | 51 => ("DeadUnderstudiesModel", "pupils", "[I", true)
  | 52 => ("DeadUnderstudiesModel", "line1", "[I", true)
  | 53 => ("DeadUnderstudiesModel", "teacherOf", "[I", true)
  | 54 => ("DeadUnderstudiesModel", "come1", "I", false)
  | 55 => ("DeadUnderstudiesModel", "cast", "[I", true)
  | 56 => ("DeadUnderstudiesModel", "firstCast", "[I", true)
  | 57 => ("DeadUnderstudiesModel", "may", "[Z", true)
  | 58 => ("DeadUnderstudiesModel", "castPeople", "I", false)
  | 59 => ("DeadUnderstudiesModel", "castWays", "I", false)
  | 60 => ("DeadUnderstudiesModel", "states", "[I", true)
  | 61 => ("DeadUnderstudiesModel", "order", "[I", true)
  | 62 => ("DeadUnderstudiesModel", "stateAt", "[I", true)
  | 63 => ("DeadUnderstudiesModel", "metWord", "[I", true)
  | 64 => ("DeadUnderstudiesModel", "metNext", "[I", true)
  | 65 => ("DeadUnderstudiesModel", "setWord", "[Z", true)
  | 66 => ("DeadUnderstudiesModel", "setNext", "[Z", true)
  | 67 => ("DeadUnderstudiesModel", "statesAhead", "[I", true)
  | 68 => ("DeadUnderstudiesModel", "tried", "[I", true)
  | 69 => ("DeadUnderstudiesModel", "leastWays", "I", false)
  | 70 => ("DeadUnderstudiesModel", "wouldBits", "I", false)
  | 71 => ("DeadUnderstudiesModel", "state", "J", false)
  | 72 => ("DeadUnderstudiesModel", "drawn", "[I", true)
  | 73 => ("DeadUnderstudiesModel", "pupil", "[I", true)
  | 74 => ("DeadUnderstudiesModel", "nDrawn", "I", false)
  | _ => ("DeadUnderstudiesModel", "isCentury", "Z", false)
def tyX12 : Nat → FieldType := fun k => match k with
  | 0 => .int
  | 1 => .int
  | 2 => .array .int
  | 3 => .array .int
  | 4 => .array .int
  | 5 => .array .boolean
  | 6 => .int
  | 7 => .array .int
  | 8 => .int
  | 9 => .int
  | 10 => .int
  | 11 => .int
  | 12 => .long
  | 13 => .int
  | 14 => .boolean
  | 15 => .boolean
  | 16 => .int
  | 17 => .array .int
  | 18 => .int
  | 19 => .array .int
  | 20 => .array .int
  | 21 => .int
  | 22 => .array .int
  | 23 => .array .int
  | 24 => .int
  | 25 => .int
  | 26 => .array .long
  | 27 => .array .long
  | 28 => .int
  | 29 => .array .long
  | 30 => .array .long
  | 31 => .array .long
  | 32 => .boolean
  | 33 => .long
  | 34 => .long
  | 35 => .array .int
  | 36 => .array .int
  | 37 => .int
  | 38 => .array .int
  | 39 => .array .int
  | 40 => .array .int
  | 41 => .array .int
  | 42 => .int
  | 43 => .array .int
  | 44 => .array .int
  | 45 => .int
  | 46 => .int
  | 47 => .int
  | 48 => .int
  | 49 => .int
  | 50 => .array .int
  | 51 => .array .int
  | 52 => .array .int
  | 53 => .array .int
  | 54 => .int
  | 55 => .array .int
  | 56 => .array .int
  | 57 => .array .boolean
  | 58 => .int
  | 59 => .int
  | 60 => .array .int
  | 61 => .array .int
  | 62 => .array .int
  | 63 => .array .int
  | 64 => .array .int
  | 65 => .array .boolean
  | 66 => .array .boolean
  | 67 => .array .int
  | 68 => .array .int
  | 69 => .int
  | 70 => .int
  | 71 => .long
  | 72 => .array .int
  | 73 => .array .int
  | 74 => .int
  | _ => .boolean
abbrev wsX120 : List Cond := u_ws RX12 TX12 76
theorem nmX12 : ∀ a, a < 76 → ∀ b, b < 76 → a ≠ b → (TX12 a).2.1 ≠ (TX12 b).2.1 := by decide +kernel
theorem tyX12_ok : ∀ k, k < 76 → parseFieldDescriptor (TX12 k).2.2.1 = some (tyX12 k) := by decide +kernel
abbrev cX12_init : ByteArray := prog_14_method_1_code
def yX12_init : MethodName := ⟨RX12, "<init>", "()V"⟩
abbrev cX12_in : ByteArray := prog_14_method_3_code
def yX12_in : MethodName := ⟨RX12, "in", "(JJJ)Z"⟩
abbrev cX12_is : ByteArray := prog_14_method_4_code
def yX12_is : MethodName := ⟨RX12, "is", "(II)Z"⟩
abbrev cX12_within : ByteArray := prog_14_method_5_code
def yX12_within : MethodName := ⟨RX12, "within", "(JII)I"⟩
abbrev cX12_tell : ByteArray := prog_14_method_6_code
def yX12_tell : MethodName := ⟨RX12, "tell", "(I)I"⟩
abbrev cX12_was : ByteArray := prog_14_method_7_code
def yX12_was : MethodName := ⟨RX12, "was", "(I)I"⟩
abbrev cX12_image : ByteArray := prog_14_method_8_code
def yX12_image : MethodName := ⟨RX12, "image", "(I)I"⟩
abbrev cX12_back : ByteArray := prog_14_method_9_code
def yX12_back : MethodName := ⟨RX12, "back", "(I)I"⟩
abbrev cX12_isPart : ByteArray := prog_14_method_10_code
def yX12_isPart : MethodName := ⟨RX12, "isPart", "(I)Z"⟩
abbrev cX12_isPerson : ByteArray := prog_14_method_11_code
def yX12_isPerson : MethodName := ⟨RX12, "isPerson", "(I)Z"⟩
abbrev cX12_isVersion : ByteArray := prog_14_method_12_code
def yX12_isVersion : MethodName := ⟨RX12, "isVersion", "(I)Z"⟩
abbrev cX12_isPlace : ByteArray := prog_14_method_13_code
def yX12_isPlace : MethodName := ⟨RX12, "isPlace", "(II)Z"⟩
abbrev cX12_isSaid : ByteArray := prog_14_method_14_code
def yX12_isSaid : MethodName := ⟨RX12, "isSaid", "(I)Z"⟩
abbrev cX12_born : ByteArray := prog_14_method_15_code
def yX12_born : MethodName := ⟨RX12, "born", "(I)I"⟩
abbrev cX12_dead : ByteArray := prog_14_method_16_code
def yX12_dead : MethodName := ⟨RX12, "dead", "(I)I"⟩
abbrev cX12_isAlive : ByteArray := prog_14_method_17_code
def yX12_isAlive : MethodName := ⟨RX12, "isAlive", "(I)Z"⟩
abbrev cX12_part : ByteArray := prog_14_method_18_code
def yX12_part : MethodName := ⟨RX12, "part", "(II)I"⟩
abbrev cX12_wordOf : ByteArray := prog_14_method_19_code
def yX12_wordOf : MethodName := ⟨RX12, "wordOf", "(I)I"⟩
abbrev cX12_nextOf : ByteArray := prog_14_method_20_code
def yX12_nextOf : MethodName := ⟨RX12, "nextOf", "(I)I"⟩
abbrev cX12_changeRule : ByteArray := prog_14_method_21_code
def yX12_changeRule : MethodName := ⟨RX12, "changeRule", "(III)I"⟩
abbrev cX12_rule : ByteArray := prog_14_method_22_code
def yX12_rule : MethodName := ⟨RX12, "rule", "(IIIII)I"⟩
abbrev cX12_hush : ByteArray := prog_14_method_23_code
def yX12_hush : MethodName := ⟨RX12, "hush", "(III)I"⟩
abbrev cX12_ofRule : ByteArray := prog_14_method_24_code
def yX12_ofRule : MethodName := ⟨RX12, "ofRule", "(II)I"⟩
abbrev cX12_of : ByteArray := prog_14_method_25_code
def yX12_of : MethodName := ⟨RX12, "of", "(IIII)I"⟩
abbrev cX12_told : ByteArray := prog_14_method_26_code
def yX12_told : MethodName := ⟨RX12, "told", "(I)I"⟩
abbrev cX12_stage : ByteArray := prog_14_method_27_code
def yX12_stage : MethodName := ⟨RX12, "stage", "(II)I"⟩
abbrev cX12_person : ByteArray := prog_14_method_28_code
def yX12_person : MethodName := ⟨RX12, "person", "(III)I"⟩
abbrev cX12_put : ByteArray := prog_14_method_29_code
def yX12_put : MethodName := ⟨RX12, "put", "(III)I"⟩
abbrev cX12_fact : ByteArray := prog_14_method_30_code
def yX12_fact : MethodName := ⟨RX12, "fact", "(II)I"⟩
abbrev cX12_terms : ByteArray := prog_14_method_31_code
def yX12_terms : MethodName := ⟨RX12, "terms", "(II)I"⟩
abbrev cX12_row : ByteArray := prog_14_method_32_code
def yX12_row : MethodName := ⟨RX12, "row", "(I)I"⟩
abbrev cX12_prattle : ByteArray := prog_14_method_33_code
def yX12_prattle : MethodName := ⟨RX12, "prattle", "()I"⟩
abbrev cX12_four : ByteArray := prog_14_method_34_code
def yX12_four : MethodName := ⟨RX12, "four", "(I)V"⟩
abbrev cX12_feed : ByteArray := prog_14_method_35_code
def yX12_feed : MethodName := ⟨RX12, "feed", "(IIIII)I"⟩
abbrev cX12_end : ByteArray := prog_14_method_36_code
def yX12_end : MethodName := ⟨RX12, "end", "(I)I"⟩
abbrev cX12_isSmall : ByteArray := prog_14_method_37_code
def yX12_isSmall : MethodName := ⟨RX12, "isSmall", "(I)Z"⟩
abbrev cX12_isDigit : ByteArray := prog_14_method_38_code
def yX12_isDigit : MethodName := ⟨RX12, "isDigit", "(I)Z"⟩
abbrev cX12_begin : ByteArray := prog_14_method_39_code
def yX12_begin : MethodName := ⟨RX12, "begin", "()V"⟩
abbrev cX12_next : ByteArray := prog_14_method_40_code
def yX12_next : MethodName := ⟨RX12, "next", "()V"⟩
abbrev cX12_isWord : ByteArray := prog_14_method_41_code
def yX12_isWord : MethodName := ⟨RX12, "isWord", "(J)Z"⟩
abbrev cX12_isSign : ByteArray := prog_14_method_42_code
def yX12_isSign : MethodName := ⟨RX12, "isSign", "(I)Z"⟩
abbrev cX12_must : ByteArray := prog_14_method_43_code
def yX12_must : MethodName := ⟨RX12, "must", "(Z)V"⟩
abbrev cX12_number : ByteArray := prog_14_method_44_code
def yX12_number : MethodName := ⟨RX12, "number", "(JJ)I"⟩
abbrev cX12_fault : ByteArray := prog_14_method_45_code
def yX12_fault : MethodName := ⟨RX12, "fault", "()I"⟩
abbrev cX12_emit : ByteArray := prog_14_method_46_code
def yX12_emit : MethodName := ⟨RX12, "emit", "(II)V"⟩
abbrev cX12_push : ByteArray := prog_14_method_47_code
def yX12_push : MethodName := ⟨RX12, "push", "(II)V"⟩
abbrev cX12_binds : ByteArray := prog_14_method_48_code
def yX12_binds : MethodName := ⟨RX12, "binds", "(I)I"⟩
abbrev cX12_settle : ByteArray := prog_14_method_49_code
def yX12_settle : MethodName := ⟨RX12, "settle", "(I)V"⟩
abbrev cX12_inner : ByteArray := prog_14_method_50_code
def yX12_inner : MethodName := ⟨RX12, "inner", "()I"⟩
abbrev cX12_isCompared : ByteArray := prog_14_method_51_code
def yX12_isCompared : MethodName := ⟨RX12, "isCompared", "()Z"⟩
abbrev cX12_partAt : ByteArray := prog_14_method_52_code
def yX12_partAt : MethodName := ⟨RX12, "partAt", "()I"⟩
abbrev cX12_playPartAt : ByteArray := prog_14_method_53_code
def yX12_playPartAt : MethodName := ⟨RX12, "playPartAt", "()I"⟩
abbrev cX12_openBracket : ByteArray := prog_14_method_54_code
def yX12_openBracket : MethodName := ⟨RX12, "openBracket", "(I)V"⟩
abbrev cX12_leaf : ByteArray := prog_14_method_55_code
def yX12_leaf : MethodName := ⟨RX12, "leaf", "(ZII)V"⟩
abbrev cX12_readPart : ByteArray := prog_14_method_56_code
def yX12_readPart : MethodName := ⟨RX12, "readPart", "()I"⟩
abbrev cX12_readPlain : ByteArray := prog_14_method_57_code
def yX12_readPlain : MethodName := ⟨RX12, "readPlain", "()I"⟩
abbrev cX12_behindSum : ByteArray := prog_14_method_58_code
def yX12_behindSum : MethodName := ⟨RX12, "behindSum", "(Z)I"⟩
abbrev cX12_behindTest : ByteArray := prog_14_method_59_code
def yX12_behindTest : MethodName := ⟨RX12, "behindTest", "()I"⟩
abbrev cX12_readExpression : ByteArray := prog_14_method_60_code
def yX12_readExpression : MethodName := ⟨RX12, "readExpression", "(Z)V"⟩
abbrev cX12_beginText : ByteArray := prog_14_method_61_code
def yX12_beginText : MethodName := ⟨RX12, "beginText", "(Z)V"⟩
abbrev cX12_endText : ByteArray := prog_14_method_62_code
def yX12_endText : MethodName := ⟨RX12, "endText", "()V"⟩
abbrev cX12_readLaw : ByteArray := prog_14_method_63_code
def yX12_readLaw : MethodName := ⟨RX12, "readLaw", "()V"⟩
abbrev cX12_law : ByteArray := prog_14_method_64_code
def yX12_law : MethodName := ⟨RX12, "law", "()I"⟩
abbrev cX12_force : ByteArray := prog_14_method_65_code
def yX12_force : MethodName := ⟨RX12, "force", "(I)I"⟩
abbrev cX12_reckon : ByteArray := prog_14_method_66_code
def yX12_reckon : MethodName := ⟨RX12, "reckon", "(IJJ)J"⟩
abbrev cX12_reckonAll : ByteArray := prog_14_method_67_code
def yX12_reckonAll : MethodName := ⟨RX12, "reckonAll", "(II)V"⟩
abbrev cX12_isSo : ByteArray := prog_14_method_68_code
def yX12_isSo : MethodName := ⟨RX12, "isSo", "(I)Z"⟩
abbrev cX12_tells : ByteArray := prog_14_method_69_code
def yX12_tells : MethodName := ⟨RX12, "tells", "(IIIIIJ)J"⟩
abbrev cX12_slipOf : ByteArray := prog_14_method_70_code
def yX12_slipOf : MethodName := ⟨RX12, "slipOf", "(IIII)I"⟩
abbrev cX12_hoursOf : ByteArray := prog_14_method_71_code
def yX12_hoursOf : MethodName := ⟨RX12, "hoursOf", "(IIII)I"⟩
abbrev cX12_isBarred : ByteArray := prog_14_method_72_code
def yX12_isBarred : MethodName := ⟨RX12, "isBarred", "(IIII)Z"⟩
abbrev cX12_asks : ByteArray := prog_14_method_73_code
def yX12_asks : MethodName := ⟨RX12, "asks", "(IIII)I"⟩
abbrev cX12_readPlace : ByteArray := prog_14_method_74_code
def yX12_readPlace : MethodName := ⟨RX12, "readPlace", "()I"⟩
abbrev cX12_readPlay : ByteArray := prog_14_method_75_code
def yX12_readPlay : MethodName := ⟨RX12, "readPlay", "()V"⟩
abbrev cX12_isPlayed : ByteArray := prog_14_method_76_code
def yX12_isPlayed : MethodName := ⟨RX12, "isPlayed", "(IIII)Z"⟩
abbrev cX12_play : ByteArray := prog_14_method_77_code
def yX12_play : MethodName := ⟨RX12, "play", "(I)I"⟩
abbrev cX12_cue : ByteArray := prog_14_method_78_code
def yX12_cue : MethodName := ⟨RX12, "cue", "(I)I"⟩
abbrev cX12_still : ByteArray := prog_14_method_79_code
def yX12_still : MethodName := ⟨RX12, "still", "()I"⟩
abbrev cX12_add : ByteArray := prog_14_method_80_code
def yX12_add : MethodName := ⟨RX12, "add", "(III)I"⟩
abbrev cX12_begin_ : ByteArray := prog_14_method_81_code
def yX12_begin_ : MethodName := ⟨RX12, "begin", "(II)I"⟩
abbrev cX12_together : ByteArray := prog_14_method_82_code
def yX12_together : MethodName := ⟨RX12, "together", "(II)I"⟩
abbrev cX12_ruleOf : ByteArray := prog_14_method_83_code
def yX12_ruleOf : MethodName := ⟨RX12, "ruleOf", "(II)I"⟩
abbrev cX12_learn : ByteArray := prog_14_method_84_code
def yX12_learn : MethodName := ⟨RX12, "learn", "(III)I"⟩
abbrev cX12_undo : ByteArray := prog_14_method_85_code
def yX12_undo : MethodName := ⟨RX12, "undo", "()I"⟩
abbrev cX12_version : ByteArray := prog_14_method_86_code
def yX12_version : MethodName := ⟨RX12, "version", "(II)I"⟩
abbrev cX12_knows : ByteArray := prog_14_method_87_code
def yX12_knows : MethodName := ⟨RX12, "knows", "(IIII)I"⟩
abbrev cX12_playCues : ByteArray := prog_14_method_88_code
def yX12_playCues : MethodName := ⟨RX12, "playCues", "(I)V"⟩
abbrev cX12_says : ByteArray := prog_14_method_89_code
def yX12_says : MethodName := ⟨RX12, "says", "(II)I"⟩
abbrev cX12_stops : ByteArray := prog_14_method_90_code
def yX12_stops : MethodName := ⟨RX12, "stops", "(I)I"⟩
abbrev cX12_findRow : ByteArray := prog_14_method_91_code
def yX12_findRow : MethodName := ⟨RX12, "findRow", "(II)V"⟩
abbrev cX12_isParted : ByteArray := prog_14_method_92_code
def yX12_isParted : MethodName := ⟨RX12, "isParted", "(II)Z"⟩
abbrev cX12_ofRow : ByteArray := prog_14_method_93_code
def yX12_ofRow : MethodName := ⟨RX12, "ofRow", "(ZI)I"⟩
abbrev cX12_apart : ByteArray := prog_14_method_94_code
def yX12_apart : MethodName := ⟨RX12, "apart", "(III)I"⟩
abbrev cX12_trap : ByteArray := prog_14_method_95_code
def yX12_trap : MethodName := ⟨RX12, "trap", "(II)I"⟩
abbrev cX12_findTalk : ByteArray := prog_14_method_96_code
def yX12_findTalk : MethodName := ⟨RX12, "findTalk", "(III)V"⟩
abbrev cX12_isTalk : ByteArray := prog_14_method_97_code
def yX12_isTalk : MethodName := ⟨RX12, "isTalk", "(III)Z"⟩
abbrev cX12_talk : ByteArray := prog_14_method_98_code
def yX12_talk : MethodName := ⟨RX12, "talk", "(IIII)I"⟩
abbrev cX12_mends : ByteArray := prog_14_method_99_code
def yX12_mends : MethodName := ⟨RX12, "mends", "(IIII)I"⟩
abbrev cX12_most : ByteArray := prog_14_method_100_code
def yX12_most : MethodName := ⟨RX12, "most", "()I"⟩
abbrev cX12_vote : ByteArray := prog_14_method_101_code
def yX12_vote : MethodName := ⟨RX12, "vote", "(II)I"⟩
abbrev cX12_drift : ByteArray := prog_14_method_102_code
def yX12_drift : MethodName := ⟨RX12, "drift", "(II)J"⟩
abbrev cX12_findOrigin : ByteArray := prog_14_method_103_code
def yX12_findOrigin : MethodName := ⟨RX12, "findOrigin", "(II)I"⟩
abbrev cX12_mostBits : ByteArray := prog_14_method_104_code
def yX12_mostBits : MethodName := ⟨RX12, "mostBits", "()I"⟩
abbrev cX12_origin : ByteArray := prog_14_method_105_code
def yX12_origin : MethodName := ⟨RX12, "origin", "(III)I"⟩
abbrev cX12_origins : ByteArray := prog_14_method_106_code
def yX12_origins : MethodName := ⟨RX12, "origins", "(II)J"⟩
abbrev cX12_findPupils : ByteArray := prog_14_method_107_code
def yX12_findPupils : MethodName := ⟨RX12, "findPupils", "(I)V"⟩
abbrev cX12_findCome : ByteArray := prog_14_method_108_code
def yX12_findCome : MethodName := ⟨RX12, "findCome", "(II)V"⟩
abbrev cX12_lastOf : ByteArray := prog_14_method_109_code
def yX12_lastOf : MethodName := ⟨RX12, "lastOf", "()I"⟩
abbrev cX12_lengthTo : ByteArray := prog_14_method_110_code
def yX12_lengthTo : MethodName := ⟨RX12, "lengthTo", "(I)I"⟩
abbrev cX12_chain : ByteArray := prog_14_method_111_code
def yX12_chain : MethodName := ⟨RX12, "chain", "(III)I"⟩
abbrev cX12_areTogether : ByteArray := prog_14_method_112_code
def yX12_areTogether : MethodName := ⟨RX12, "areTogether", "(II)Z"⟩
abbrev cX12_canPlay : ByteArray := prog_14_method_113_code
def yX12_canPlay : MethodName := ⟨RX12, "canPlay", "(I)Z"⟩
abbrev cX12_findCast : ByteArray := prog_14_method_114_code
def yX12_findCast : MethodName := ⟨RX12, "findCast", "()V"⟩
abbrev cX12_keepCast : ByteArray := prog_14_method_115_code
def yX12_keepCast : MethodName := ⟨RX12, "keepCast", "(I)V"⟩
abbrev cX12_cast : ByteArray := prog_14_method_116_code
def yX12_cast : MethodName := ⟨RX12, "cast", "(I)I"⟩
abbrev cX12_deed : ByteArray := prog_14_method_117_code
def yX12_deed : MethodName := ⟨RX12, "deed", "(III)I"⟩
abbrev cX12_forget : ByteArray := prog_14_method_118_code
def yX12_forget : MethodName := ⟨RX12, "forget", "()I"⟩
abbrev cX12_judge : ByteArray := prog_14_method_119_code
def yX12_judge : MethodName := ⟨RX12, "judge", "(I)I"⟩
abbrev cX12_findOrder : ByteArray := prog_14_method_120_code
def yX12_findOrder : MethodName := ⟨RX12, "findOrder", "()V"⟩
abbrev cX12_isLast : ByteArray := prog_14_method_121_code
def yX12_isLast : MethodName := ⟨RX12, "isLast", "(I)Z"⟩
abbrev cX12_takeBack : ByteArray := prog_14_method_122_code
def yX12_takeBack : MethodName := ⟨RX12, "takeBack", "(I)V"⟩
abbrev cX12_goesOn : ByteArray := prog_14_method_123_code
def yX12_goesOn : MethodName := ⟨RX12, "goesOn", "(II)Z"⟩
abbrev cX12_findWays : ByteArray := prog_14_method_124_code
def yX12_findWays : MethodName := ⟨RX12, "findWays", "(III)V"⟩
abbrev cX12_meet : ByteArray := prog_14_method_125_code
def yX12_meet : MethodName := ⟨RX12, "meet", "(III)V"⟩
abbrev cX12_findLeast : ByteArray := prog_14_method_126_code
def yX12_findLeast : MethodName := ⟨RX12, "findLeast", "(II)I"⟩
abbrev cX12_least : ByteArray := prog_14_method_127_code
def yX12_least : MethodName := ⟨RX12, "least", "(I)I"⟩
abbrev cX12_would : ByteArray := prog_14_method_128_code
def yX12_would : MethodName := ⟨RX12, "would", "(II)I"⟩
abbrev cX12_draw : ByteArray := prog_14_method_129_code
def yX12_draw : MethodName := ⟨RX12, "draw", "(I)I"⟩
abbrev cX12_century : ByteArray := prog_14_method_130_code
def yX12_century : MethodName := ⟨RX12, "century", "(III)I"⟩
abbrev cX12_drawn : ByteArray := prog_14_method_131_code
def yX12_drawn : MethodName := ⟨RX12, "drawn", "(III)I"⟩
abbrev cX12_count : ByteArray := prog_14_method_132_code
def yX12_count : MethodName := ⟨RX12, "count", "(I)I"⟩
abbrev cX12_status : ByteArray := prog_14_method_133_code
def yX12_status : MethodName := ⟨RX12, "status", "()I"⟩
def RL : String := "DeadUnderstudiesLaw"
abbrev vwCl : List vw_C := [(RX0, TX0, 10), (RX1, TX1, 9), (RX2, TX2, 5), (RX3, TX3, 15), (RX4, TX4, 14), (RX5, TX5, 4), (RX6, TX6, 11), (RX7, TX7, 13), (RX8, TX8, 7), (RX9, TX9, 2), (RX10, TX10, 19), (RX11, TX11, 20), (RX12, TX12, 76)]
end
section
/-! TABLES, by program (wip/sim/gen.py): what the runs meet of the classes, by class number and entry of its pool; the last number of a row is the place of its word in wsL_law -/
def rx_lku {α : Type} : List (Nat × α) → Nat → Option α
  | [], _ => none
  | q :: l, i => if q.1 = i then some q.2 else rx_lku l i
def rxNm (o : Nat) : String := match o with
  | 0 => RX0
  | 1 => RX1
  | 2 => RX2
  | 3 => RX3
  | 4 => RX4
  | 5 => RX5
  | 6 => RX6
  | 7 => RX7
  | 8 => RX8
  | 9 => RX9
  | 10 => RX10
  | 11 => RX11
  | 12 => RX12
  | 13 => RL
  | _ => ""
def rxNW : List Jvm.Cond := [Cond.fieldLinkNest RX0 44 "DeadUnderstudies$Town" "parts" "I" "DeadUnderstudies", Cond.fieldLinkNest RX0 53 "DeadUnderstudies$Town" "people" "LDeadUnderstudies$People;" "DeadUnderstudies", Cond.fieldLinkNest RX0 56 "DeadUnderstudies$People" "number" "I" "DeadUnderstudies", Cond.fieldLinkNest RX4 56 "DeadUnderstudies$Deeds" "number" "I" "DeadUnderstudies", Cond.fieldLinkNest RX11 114 "DeadUnderstudies$Town" "parts" "I" "DeadUnderstudies", Cond.fieldLinkNest RX11 167 "DeadUnderstudies$Town" "people" "LDeadUnderstudies$People;" "DeadUnderstudies", Cond.fieldLinkNest RX11 171 "DeadUnderstudies$People" "number" "I" "DeadUnderstudies", Cond.fieldLinkNest RX11 201 "DeadUnderstudies$Town" "terms" "[I" "DeadUnderstudies", Cond.fieldLinkNest RX11 220 "DeadUnderstudies$Town" "laws" "I" "DeadUnderstudies", Cond.fieldLinkNest RX11 227 "DeadUnderstudies$Reader" "faultPlace" "I" "DeadUnderstudies", Cond.fieldLinkNest RX11 233 "DeadUnderstudies$Town" "inForce" "I" "DeadUnderstudies", Cond.fieldLinkNest RX11 242 "DeadUnderstudies$Town" "cues" "I" "DeadUnderstudies", Cond.fieldLinkNest RX11 251 "DeadUnderstudies$Town" "versions" "I" "DeadUnderstudies", Cond.fieldLinkNest RX11 388 "DeadUnderstudies$Cast" "fewest" "I" "DeadUnderstudies", Cond.fieldLinkNest RX11 391 "DeadUnderstudies$Cast" "rows" "I" "DeadUnderstudies", Cond.fieldLinkNest RX11 397 "DeadUnderstudies$Town" "deeds" "LDeadUnderstudies$Deeds;" "DeadUnderstudies", Cond.fieldLinkNest RX11 401 "DeadUnderstudies$Deeds" "number" "I" "DeadUnderstudies", Cond.methodLinkNest RX1 11 yX5_init "DeadUnderstudies", Cond.methodLinkNest RX7 34 yX6_init "DeadUnderstudies", Cond.methodLinkNest RX10 30 yX5_init "DeadUnderstudies", Cond.methodLinkNest RX10 58 yX2_init "DeadUnderstudies", Cond.methodLinkNest RX10 85 yX6_init "DeadUnderstudies", Cond.methodLinkNest RX11 34 yX7_init "DeadUnderstudies", Cond.methodLinkNest RX11 41 yX6_init "DeadUnderstudies", Cond.methodLinkNest RX11 57 yX8_init "DeadUnderstudies", Cond.methodLinkNest RX11 64 yX3_init "DeadUnderstudies", Cond.methodLinkNest RX11 71 yX4_init "DeadUnderstudies", Cond.methodLinkNest RX11 78 yX1_init "DeadUnderstudies", Cond.methodLinkNest RX11 85 yX0_init "DeadUnderstudies"]
def rxNWp : List Nat := [301, 312, 181, 211, 302, 313, 183, 329, 331, 391, 333, 324, 315, 620, 622, 327, 212, 574, 385, 176, 206, 253, 380, 429, 432, 460, 520, 569, 607]
def rxAO : List String := [RX9, RX6, RX10]
def rxAOp : List Nat := [309, 368, 513]
def rxFrL0 : List (Nat × rx_Q × Nat) := [(9, (0, 0, 0, false, false), 216), (15, (0, 1, 0, false, false), 217), (18, (0, 2, 3, true, false), 218), (22, (0, 3, 3, true, false), 219), (25, (0, 4, 3, true, false), 220), (29, (0, 5, 3, true, false), 221), (32, (0, 6, 3, true, false), 222), (35, (0, 7, 3, true, false), 223), (38, (0, 8, 0, false, false), 224), (41, (0, 9, 0, false, false), 225), (44, (10, 0, 0, false, true), 0), (53, (10, 4, 3, true, true), 1), (56, (5, 0, 0, false, true), 2)]
def rxFrL1 : List (Nat × rx_Q × Nat) := [(12, (1, 0, 3, false, false), 204), (18, (1, 1, 3, true, false), 205), (22, (1, 2, 3, true, false), 206), (26, (1, 3, 3, true, false), 207), (29, (1, 4, 3, true, false), 208), (32, (1, 5, 0, false, false), 209), (36, (1, 6, 0, false, false), 210), (39, (1, 7, 0, false, false), 211), (42, (1, 8, 0, false, false), 212)]
def rxFrL2 : List (Nat × rx_Q × Nat) := [(9, (2, 0, 0, false, false), 102), (15, (2, 1, 3, true, false), 103), (19, (2, 2, 3, true, false), 104), (22, (2, 3, 3, true, false), 105), (25, (2, 4, 3, true, false), 106)]
def rxFrL3 : List (Nat × rx_Q × Nat) := [(12, (3, 0, 3, true, false), 167), (18, (3, 1, 3, true, false), 168), (21, (3, 2, 1, false, false), 169), (25, (3, 3, 0, false, false), 170), (29, (3, 4, 0, false, false), 171), (32, (3, 5, 1, false, false), 172), (35, (3, 6, 0, false, false), 173), (38, (3, 7, 3, true, false), 174), (42, (3, 8, 0, false, false), 175), (45, (3, 9, 0, false, false), 176), (48, (3, 10, 0, false, false), 177), (51, (3, 11, 0, false, false), 178), (54, (3, 12, 0, false, false), 179), (57, (3, 13, 0, false, false), 180), (60, (3, 14, 0, false, false), 181)]
def rxFrL4 : List (Nat × rx_Q × Nat) := [(9, (4, 0, 0, false, false), 186), (15, (4, 1, 3, true, false), 187), (19, (4, 2, 3, true, false), 188), (22, (4, 3, 3, true, false), 189), (25, (4, 4, 3, true, false), 190), (28, (4, 5, 0, false, false), 191), (31, (4, 6, 0, false, false), 192), (34, (4, 7, 0, false, false), 193), (37, (4, 8, 1, false, false), 194), (41, (4, 9, 0, false, false), 195), (44, (4, 10, 0, false, false), 196), (47, (4, 11, 3, true, false), 197), (50, (4, 12, 3, true, false), 198), (53, (4, 13, 3, true, false), 199), (56, (2, 0, 0, false, true), 3)]
def rxFrL5 : List (Nat × rx_Q × Nat) := [(9, (5, 0, 0, false, false), 95), (15, (5, 1, 3, true, false), 96), (19, (5, 2, 3, true, false), 97), (22, (5, 3, 3, true, false), 98)]
def rxFrL6 : List (Nat × rx_Q × Nat) := [(9, (6, 0, 0, false, false), 124), (15, (6, 1, 3, true, false), 125), (19, (6, 2, 3, true, false), 126), (22, (6, 3, 3, true, false), 128), (26, (6, 4, 0, false, false), 129), (29, (6, 5, 3, true, false), 130), (32, (6, 6, 3, true, false), 131), (35, (6, 7, 3, true, false), 132), (38, (6, 8, 3, true, false), 133), (41, (6, 9, 3, true, false), 134), (44, (6, 10, 3, true, false), 135)]
def rxFrL7 : List (Nat × rx_Q × Nat) := [(9, (7, 0, 3, false, false), 139), (15, (7, 1, 0, false, false), 140), (19, (7, 2, 0, false, false), 141), (22, (7, 3, 0, false, false), 142), (25, (7, 4, 0, false, false), 143), (28, (7, 5, 1, false, false), 144), (35, (7, 6, 3, false, false), 146), (39, (7, 7, 0, false, false), 147), (42, (7, 8, 0, false, false), 148), (45, (7, 9, 3, true, false), 149), (48, (7, 10, 0, false, false), 150), (51, (7, 11, 3, true, false), 151), (54, (7, 12, 3, true, false), 152)]
def rxFrL8 : List (Nat × rx_Q × Nat) := [(11, (8, 0, 3, true, false), 156), (15, (8, 1, 3, true, false), 157), (18, (8, 2, 3, true, false), 158), (21, (8, 3, 3, true, false), 159), (24, (8, 4, 2, false, false), 160), (28, (8, 5, 0, false, false), 161), (32, (8, 6, 0, false, false), 162)]
def rxFrL9 : List (Nat × rx_Q × Nat) := [(9, (9, 0, 3, true, false), 111), (15, (9, 1, 3, true, false), 112)]
def rxFrL10 : List (Nat × rx_Q × Nat) := [(9, (10, 0, 0, false, false), 65), (15, (10, 1, 3, true, false), 66), (19, (10, 2, 3, true, false), 67), (24, (10, 3, 3, true, false), 69), (31, (10, 4, 3, true, false), 73), (35, (10, 5, 0, false, false), 74), (38, (10, 6, 3, true, false), 75), (41, (10, 7, 3, true, false), 76), (44, (10, 8, 3, true, false), 77), (47, (10, 9, 3, true, false), 78), (50, (10, 10, 0, false, false), 79), (53, (10, 11, 3, true, false), 80), (59, (10, 12, 3, true, false), 84), (63, (10, 13, 3, true, false), 85), (66, (10, 14, 0, false, false), 86), (69, (10, 15, 0, false, false), 87), (74, (10, 16, 3, true, false), 89), (78, (10, 17, 3, true, false), 90), (81, (10, 18, 3, true, false), 91)]
def rxFrL11 : List (Nat × rx_Q × Nat) := [(12, (11, 0, 3, true, false), 15), (16, (11, 1, 3, true, false), 16), (20, (11, 2, 3, true, false), 18), (24, (11, 3, 3, true, false), 20), (28, (11, 4, 0, false, false), 21), (35, (11, 5, 3, true, false), 25), (42, (11, 6, 3, true, false), 29), (46, (11, 7, 0, false, false), 30), (49, (11, 8, 0, false, false), 31), (52, (11, 9, 3, true, false), 32), (58, (11, 10, 3, true, false), 36), (65, (11, 11, 3, true, false), 40), (72, (11, 12, 3, true, false), 44), (79, (11, 13, 3, true, false), 48), (86, (11, 14, 3, true, false), 52), (90, (11, 15, 3, true, false), 53), (93, (11, 16, 1, false, false), 54), (100, (11, 17, 3, true, false), 58), (104, (11, 18, 3, true, false), 59), (107, (11, 19, 0, false, false), 60), (114, (10, 0, 0, false, true), 4), (167, (10, 4, 3, true, true), 5), (171, (5, 0, 0, false, true), 6), (201, (10, 13, 3, true, true), 7), (220, (10, 14, 0, false, true), 8), (227, (7, 4, 0, false, true), 9), (233, (10, 15, 0, false, true), 10), (242, (10, 10, 0, false, true), 11), (251, (10, 5, 0, false, true), 12), (388, (0, 8, 0, false, true), 13), (391, (0, 9, 0, false, true), 14), (397, (10, 12, 3, true, true), 15), (401, (2, 0, 0, false, true), 16)]
def rxFrL12 : List (Nat × rx_Q × Nat) := [(7, (12, 2, 3, true, false), 231), (13, (12, 3, 3, true, false), 232), (16, (12, 4, 3, true, false), 233), (19, (12, 5, 3, true, false), 234), (23, (12, 7, 3, true, false), 235), (26, (12, 13, 0, false, false), 236), (30, (12, 17, 3, true, false), 237), (33, (12, 19, 3, true, false), 238), (36, (12, 20, 3, true, false), 239), (39, (12, 22, 3, true, false), 240), (42, (12, 23, 3, true, false), 241), (61, (12, 26, 3, true, false), 250), (73, (12, 27, 3, true, false), 255), (76, (12, 29, 3, true, false), 256), (79, (12, 30, 3, true, false), 257), (82, (12, 31, 3, true, false), 258), (85, (12, 35, 3, true, false), 259), (88, (12, 36, 3, true, false), 260), (91, (12, 38, 3, true, false), 261), (94, (12, 39, 3, true, false), 262), (97, (12, 40, 3, true, false), 263), (100, (12, 41, 3, true, false), 264), (103, (12, 43, 3, true, false), 265), (106, (12, 44, 3, true, false), 266), (109, (12, 50, 3, true, false), 267), (112, (12, 51, 3, true, false), 268), (115, (12, 52, 3, true, false), 269), (118, (12, 53, 3, true, false), 270), (121, (12, 55, 3, true, false), 271), (124, (12, 56, 3, true, false), 272), (127, (12, 57, 3, true, false), 273), (130, (12, 60, 3, true, false), 274), (133, (12, 61, 3, true, false), 275), (136, (12, 62, 3, true, false), 276), (139, (12, 63, 3, true, false), 277), (142, (12, 64, 3, true, false), 278), (145, (12, 65, 3, true, false), 279), (148, (12, 66, 3, true, false), 280), (151, (12, 67, 3, true, false), 281), (154, (12, 68, 3, true, false), 282), (157, (12, 72, 3, true, false), 283), (160, (12, 73, 3, true, false), 284), (163, (12, 0, 0, false, false), 306), (166, (12, 1, 0, false, false), 316), (236, (12, 8, 0, false, false), 511), (239, (12, 6, 0, false, false), 536), (246, (12, 10, 0, false, false), 800), (249, (12, 14, 1, false, false), 787), (256, (12, 9, 0, false, false), 805), (259, (12, 12, 2, false, false), 806), (269, (12, 11, 0, false, false), 807), (288, (12, 18, 0, false, false), 794), (317, (12, 21, 0, false, false), 795), (326, (12, 15, 1, false, false), 788), (374, (12, 16, 0, false, false), 789), (562, (12, 58, 0, false, false), 1499), (565, (12, 59, 0, false, false), 1498), (580, (12, 69, 0, false, false), 1606), (583, (12, 70, 0, false, false), 1619), (613, (12, 75, 1, false, false), 1680)]
def rxFrL (o : Nat) : List (Nat × rx_Q × Nat) := match o with
  | 0 => rxFrL0
  | 1 => rxFrL1
  | 2 => rxFrL2
  | 3 => rxFrL3
  | 4 => rxFrL4
  | 5 => rxFrL5
  | 6 => rxFrL6
  | 7 => rxFrL7
  | 8 => rxFrL8
  | 9 => rxFrL9
  | 10 => rxFrL10
  | 11 => rxFrL11
  | 12 => rxFrL12
  | _ => []
def rxCrL1 : List (Nat × (Nat × List Nat) × Nat × Nat × Nat) := [(9, (5, [0, 3, 3, 3]), 203, 71, 72)]
def rxCrL3 : List (Nat × (Nat × List Nat) × Nat × Nat × Nat) := [(9, (9, [3, 3]), 166, 56, 57)]
def rxCrL7 : List (Nat × (Nat × List Nat) × Nat × Nat × Nat) := [(32, (6, [0, 3, 3, 3, 0, 3, 3, 3, 3, 3, 3]), 145, 27, 28)]
def rxCrL10 : List (Nat × (Nat × List Nat) × Nat × Nat × Nat) := [(22, (9, [3, 3]), 68, 56, 57), (28, (5, [0, 3, 3, 3]), 70, 71, 72), (56, (2, [0, 3, 3, 3, 3]), 81, 82, 83), (72, (6, [0, 3, 3, 3, 0, 3, 3, 3, 3, 3, 3]), 88, 27, 28)]
def rxCrL11 : List (Nat × (Nat × List Nat) × Nat × Nat × Nat) := [(9, (10, [0, 3, 3, 3, 3, 0, 3, 3, 3, 3, 0, 3, 3, 3, 0, 0, 3, 3, 3]), 12, 13, 14), (32, (7, [3, 0, 0, 0, 0, 1, 3, 0, 0, 3, 0, 3, 3]), 22, 23, 24), (39, (6, [0, 3, 3, 3, 0, 3, 3, 3, 3, 3, 3]), 26, 27, 28), (55, (8, [3, 3, 3, 3, 2, 0, 0]), 33, 34, 35), (62, (3, [3, 3, 1, 0, 0, 1, 0, 3, 0, 0, 0, 0, 0, 0, 0]), 37, 38, 39), (69, (4, [0, 3, 3, 3, 3, 0, 0, 0, 1, 0, 0, 3, 3, 3]), 41, 42, 43), (76, (1, [3, 3, 3, 3, 3, 0, 0, 0, 0]), 45, 46, 47), (83, (0, [0, 0, 3, 3, 3, 3, 3, 3, 0, 0]), 49, 50, 51), (97, (9, [3, 3]), 55, 56, 57)]
def rxCrL13 : List (Nat × (Nat × List Nat) × Nat × Nat × Nat) := [(7, (11, [3, 3, 3, 3, 0, 3, 3, 0, 0, 3, 3, 3, 3, 3, 3, 3, 1, 3, 3, 0]), 0, 1, 2), (10, (12, [0, 0, 3, 3, 3, 3, 0, 3, 0, 0, 0, 0, 2, 0, 1, 1, 0, 3, 0, 3, 3, 0, 3, 3, 0, 0, 3, 3, 0, 3, 3, 3, 1, 2, 2, 3, 3, 0, 3, 3, 3, 3, 0, 3, 3, 0, 0, 0, 0, 0, 3, 3, 3, 3, 0, 3, 3, 3, 0, 0, 3, 3, 3, 3, 3, 3, 3, 3, 3, 0, 0, 2, 3, 3, 0, 1]), 3, 4, 5)]
def rxCrL (o : Nat) : List (Nat × (Nat × List Nat) × Nat × Nat × Nat) := match o with
  | 1 => rxCrL1
  | 3 => rxCrL3
  | 7 => rxCrL7
  | 10 => rxCrL10
  | 11 => rxCrL11
  | 13 => rxCrL13
  | _ => []
def rxArL10 : List (Nat × Nat × Nat) := [(22, 9, 68), (72, 6, 88)]
def rxArL11 : List (Nat × Nat × Nat) := [(9, 10, 12)]
def rxArL (o : Nat) : List (Nat × Nat × Nat) := match o with
  | 10 => rxArL10
  | 11 => rxArL11
  | _ => []
def rxKcL11 : List (Nat × Nat × Int × Nat) := [(339, 1, -1, 1341), (420, 0, 1000000, 1652)]
def rxKcL12 : List (Nat × Nat × Int × Nat) := [(45, 1, 542723566, 242), (47, 1, 441892441, 243), (49, 1, 81486, 244), (51, 1, 136228, 245), (53, 1, 525908, 246), (55, 1, 21643763890, 247), (57, 1, 824370, 248), (59, 1, 441828, 249), (65, 1, 20579973, 251), (67, 1, 3749, 252), (69, 1, 769604, 253), (71, 1, 464660, 254), (177, 1, 5, 344), (179, 1, 9, 351), (187, 1, 23, 307), (189, 1, 24, 308), (219, 1, 3, 417), (224, 1, 200, 437), (226, 1, 300, 438), (234, 1, 100, 498), (276, 1, -1, 810), (278, 1, 1000000, 811), (377, 1, 20325907, 967), (379, 1, 8902227, 968), (381, 1, 67155, 969), (530, 1, 6, 1349), (561, 0, 1000000, 1504), (622, 1, 13, 1741), (624, 1, 15, 1742)]
def rxKcL (o : Nat) : List (Nat × Nat × Int × Nat) := match o with
  | 11 => rxKcL11
  | 12 => rxKcL12
  | _ => []
def rxCjL0 : List (Nat × rx_J × Nat) := [(71, (0, 0, 0, 22), 1469), (74, (0, 0, 0, 23), 1473), (83, (0, 2, 0, 24), 1482)]
def rxCjL1 : List (Nat × rx_J × Nat) := [(11, (5, 0, 5, 0), 17)]
def rxCjL3 : List (Nat × rx_J × Nat) := [(11, (2, 0, 9, 1), 182)]
def rxCjL4 : List (Nat × rx_J × Nat) := [(62, (0, 4, 4, 26), 1564), (78, (0, 3, 4, 27), 1570), (82, (0, 0, 4, 28), 1574), (86, (1, 2, 4, 13), 1582), (99, (0, 0, 4, 29), 1578), (102, (0, 1, 4, 25), 1585)]
def rxCjL7 : List (Nat × rx_J × Nat) := [(34, (5, 0, 6, 2), 18), (63, (0, 0, 6, 31), 557), (66, (0, 0, 7, 32), 561), (73, (0, 0, 7, 33), 733), (83, (0, 0, 7, 34), 634), (100, (0, 1, 7, 30), 581)]
def rxCjL9 : List (Nat × rx_J × Nat) := [(18, (0, 0, 9, 35), 113)]
def rxCjL10 : List (Nat × rx_J × Nat) := [(30, (5, 0, 5, 0), 19), (58, (5, 0, 2, 3), 20), (84, (2, 0, 9, 1), 107), (85, (5, 0, 6, 2), 21), (92, (0, 1, 9, 36), 1710), (96, (0, 1, 5, 37), 1711), (99, (0, 1, 2, 38), 1716), (105, (0, 0, 9, 35), 297)]
def rxCjL11 : List (Nat × rx_J × Nat) := [(11, (2, 0, 10, 4), 61), (34, (5, 0, 7, 5), 22), (41, (5, 0, 6, 2), 23), (57, (5, 0, 8, 6), 24), (64, (5, 0, 3, 7), 25), (71, (5, 0, 4, 8), 26), (78, (5, 0, 1, 9), 27), (85, (5, 0, 0, 10), 28), (99, (2, 0, 9, 1), 226), (110, (0, 1, 11, 39), 289), (117, (0, 2, 10, 40), 293), (121, (0, 1, 11, 41), 298), (124, (1, 2, 11, 14), 321), (128, (0, 1, 10, 42), 324), (164, (1, 1, 11, 15), 426), (176, (0, 3, 5, 43), 429), (180, (1, 1, 11, 16), 443), (183, (0, 1, 5, 44), 446), (198, (1, 1, 11, 17), 491), (204, (0, 1, 11, 45), 503), (212, (0, 4, 7, 46), 549), (230, (0, 1, 10, 47), 982), (245, (0, 1, 10, 48), 1034), (264, (0, 1, 10, 49), 1085), (298, (0, 3, 11, 50), 1235), (341, (1, 3, 11, 18), 1342), (382, (0, 1, 0, 51), 1459), (385, (0, 0, 0, 52), 1465), (394, (0, 1, 0, 53), 1490), (404, (0, 3, 2, 54), 1521), (408, (0, 1, 4, 55), 1556), (411, (0, 0, 4, 56), 1560), (414, (0, 1, 4, 57), 1598), (417, (0, 3, 4, 58), 1640), (431, (0, 1, 10, 59), 1705)]
def rxCjL12 : List (Nat × rx_J × Nat) := [(169, (1, 3, 12, 19), 309), (173, (0, 1, 12, 156), 312), (194, (0, 1, 12, 157), 363), (197, (1, 2, 12, 20), 345), (201, (1, 1, 12, 21), 348), (205, (0, 1, 12, 158), 352), (228, (0, 1, 12, 159), 454), (242, (0, 1, 12, 160), 512), (253, (0, 0, 12, 161), 801), (284, (0, 1, 12, 162), 834), (307, (0, 1, 12, 163), 830), (371, (0, 0, 12, 164), 796), (388, (0, 1, 12, 165), 790), (391, (0, 0, 12, 166), 963), (394, (0, 0, 12, 167), 919), (472, (0, 1, 12, 168), 1118), (517, (0, 3, 12, 169), 1282), (568, (0, 1, 12, 170), 1505), (574, (0, 0, 12, 171), 1500), (586, (0, 3, 12, 172), 1620), (595, (0, 0, 12, 173), 1611), (598, (0, 3, 12, 174), 1615), (601, (0, 2, 12, 175), 1607)]
def rxCjL13 : List (Nat × rx_J × Nat) := [(9, (2, 0, 11, 12), 6), (12, (2, 0, 12, 11), 227), (13, (0, 2, 11, 74), 285), (17, (0, 2, 12, 95), 302), (18, (0, 5, 11, 101), 317), (22, (0, 5, 12, 118), 340), (23, (0, 3, 11, 119), 367), (27, (0, 3, 12, 120), 376), (28, (0, 4, 11, 121), 380), (32, (0, 4, 12, 122), 391), (33, (0, 2, 11, 123), 401), (36, (0, 2, 12, 124), 413), (37, (0, 3, 11, 125), 422), (40, (0, 3, 12, 126), 433), (41, (0, 3, 11, 127), 439), (44, (0, 3, 12, 128), 450), (45, (0, 2, 11, 129), 462), (48, (0, 2, 12, 130), 475), (49, (0, 2, 11, 131), 487), (52, (0, 2, 12, 132), 494), (53, (0, 5, 11, 133), 499), (56, (0, 5, 12, 134), 507), (57, (0, 1, 11, 135), 516), (61, (0, 1, 12, 136), 520), (62, (0, 1, 11, 137), 524), (65, (0, 1, 12, 138), 532), (66, (0, 0, 11, 139), 537), (70, (0, 0, 12, 140), 541), (71, (0, 1, 11, 141), 545), (74, (0, 1, 12, 142), 783), (75, (0, 0, 11, 143), 943), (78, (0, 0, 12, 144), 959), (79, (0, 0, 11, 145), 970), (82, (0, 0, 12, 146), 974), (83, (0, 1, 11, 147), 978), (86, (0, 1, 12, 148), 986), (87, (0, 4, 11, 149), 990), (90, (0, 4, 12, 150), 1004), (91, (0, 1, 11, 151), 1030), (94, (0, 1, 12, 152), 1038), (95, (0, 0, 11, 153), 1042), (98, (0, 0, 12, 154), 1046), (99, (0, 2, 11, 155), 1050), (102, (0, 2, 12, 60), 1073), (103, (0, 3, 11, 61), 1081), (106, (0, 3, 12, 62), 1114), (107, (0, 0, 11, 63), 1130), (110, (0, 0, 12, 64), 1134), (111, (0, 2, 11, 65), 1138), (114, (0, 2, 12, 66), 1146), (115, (0, 4, 11, 67), 1151), (118, (0, 4, 12, 68), 1155), (119, (0, 2, 11, 69), 1159), (122, (0, 2, 12, 70), 1167), (123, (0, 1, 11, 71), 1176), (126, (0, 1, 12, 72), 1180), (127, (0, 3, 11, 73), 1184), (130, (0, 3, 12, 75), 1206), (131, (0, 2, 11, 76), 1223), (134, (0, 2, 12, 77), 1227), (135, (0, 4, 11, 78), 1231), (138, (0, 4, 12, 79), 1274), (139, (0, 4, 11, 80), 1292), (142, (0, 4, 12, 81), 1306), (143, (0, 2, 11, 82), 1310), (146, (0, 2, 12, 83), 1329), (147, (0, 2, 11, 84), 1337), (151, (0, 2, 12, 85), 1345), (152, (0, 3, 11, 86), 1350), (155, (0, 3, 12, 87), 1362), (156, (0, 2, 11, 88), 1374), (159, (0, 2, 12, 89), 1393), (160, (0, 3, 11, 90), 1398), (163, (0, 3, 12, 91), 1431), (164, (0, 1, 11, 92), 1455), (167, (0, 1, 12, 93), 1494), (168, (0, 3, 11, 94), 1517), (171, (0, 3, 12, 96), 1525), (172, (0, 0, 11, 97), 1529), (175, (0, 0, 12, 98), 1533), (176, (0, 1, 11, 99), 1537), (179, (0, 1, 12, 100), 1548), (180, (0, 1, 11, 102), 1552), (183, (0, 1, 12, 103), 1602), (184, (0, 2, 11, 104), 1636), (187, (0, 2, 12, 105), 1644), (188, (0, 3, 11, 106), 1648), (191, (0, 3, 12, 107), 1675), (192, (0, 3, 11, 108), 1689), (195, (0, 3, 12, 109), 1697), (196, (0, 1, 11, 110), 1701), (199, (0, 1, 12, 111), 1721), (200, (0, 1, 11, 112), 1725), (203, (0, 1, 12, 113), 1729), (204, (0, 1, 11, 114), 1733), (207, (0, 1, 12, 115), 1737), (208, (0, 0, 11, 116), 1743), (211, (0, 0, 12, 117), 1747)]
def rxCjL (o : Nat) : List (Nat × rx_J × Nat) := match o with
  | 0 => rxCjL0
  | 1 => rxCjL1
  | 3 => rxCjL3
  | 4 => rxCjL4
  | 7 => rxCjL7
  | 9 => rxCjL9
  | 10 => rxCjL10
  | 11 => rxCjL11
  | 12 => rxCjL12
  | 13 => rxCjL13
  | _ => []
def rxXtL0 : List (Nat × Nat) := [(3, 10), (47, 13), (77, 12)]
def rxXtL1 : List (Nat × Nat) := [(3, 10)]
def rxXtL2 : List (Nat × Nat) := [(3, 10), (28, 11)]
def rxXtL3 : List (Nat × Nat) := [(3, 10)]
def rxXtL4 : List (Nat × Nat) := [(3, 10), (66, 13), (72, 12)]
def rxXtL5 : List (Nat × Nat) := [(3, 10), (25, 11)]
def rxXtL6 : List (Nat × Nat) := [(3, 10)]
def rxXtL7 : List (Nat × Nat) := [(3, 10), (57, 13), (238, 14)]
def rxXtL8 : List (Nat × Nat) := [(3, 10)]
def rxXtL9 : List (Nat × Nat) := [(3, 10), (21, 12), (27, 11)]
def rxXtL10 : List (Nat × Nat) := [(3, 10), (86, 11)]
def rxXtL11 : List (Nat × Nat) := [(3, 10)]
def rxXtL12 : List (Nat × Nat) := [(1, 10)]
def rxXtL (o : Nat) : List (Nat × Nat) := match o with
  | 0 => rxXtL0
  | 1 => rxXtL1
  | 2 => rxXtL2
  | 3 => rxXtL3
  | 4 => rxXtL4
  | 5 => rxXtL5
  | 6 => rxXtL6
  | 7 => rxXtL7
  | 8 => rxXtL8
  | 9 => rxXtL9
  | 10 => rxXtL10
  | 11 => rxXtL11
  | 12 => rxXtL12
  | _ => []
def rxStL7 : List (Nat × Nat) := [(121, 1), (123, 3), (125, 2)]
def rxStL (o : Nat) : List (Nat × Nat) := match o with
  | 7 => rxStL7
  | _ => []
def rxSlen : List Nat := [0, 4, 5, 5]
/-- methods; places of their words: code, initialized, static, instance, selects -/
def rxM0 : rx_Mt := (5, cX5_init, 1, none, yX5_init, true, 3, 24)
def rxM1 : rx_Mt := (9, cX9_init, 1, none, yX9_init, true, 2, 72)
def rxM2 : rx_Mt := (6, cX6_init, 1, none, yX6_init, true, 9, 936)
def rxM3 : rx_Mt := (2, cX2_init, 1, none, yX2_init, true, 4, 40)
def rxM4 : rx_Mt := (10, cX10_init, 2, none, yX10_init, true, 135, 7185)
def rxM5 : rx_Mt := (7, cX7_init, 1, none, yX7_init, true, 14, 1756)
def rxM6 : rx_Mt := (8, cX8_init, 1, none, yX8_init, true, 4, 144)
def rxM7 : rx_Mt := (3, cX3_init, 1, none, yX3_init, true, 7, 580)
def rxM8 : rx_Mt := (4, cX4_init, 1, none, yX4_init, true, 7, 88)
def rxM9 : rx_Mt := (1, cX1_init, 1, none, yX1_init, true, 8, 116)
def rxM10 : rx_Mt := (0, cX0_init, 1, none, yX0_init, true, 6, 540)
def rxM11 : rx_Mt := (12, cX12_init, 1, none, yX12_init, true, 41, 22483)
def rxM12 : rx_Mt := (11, cX11_init, 1, none, yX11_init, true, 479, 26353)
def rxM13 : rx_Mt := (4, cX4_ruleAt, 2, (some .int), yX4_ruleAt, false, 0, 0)
def rxM14 : rx_Mt := (11, cX11_isRule, 2, (some .boolean), yX11_isRule, false, 0, 0)
def rxM15 : rx_Mt := (11, cX11_isMemory, 1, (some .boolean), yX11_isMemory, false, 0, 0)
def rxM16 : rx_Mt := (11, cX11_isYear, 1, (some .boolean), yX11_isYear, false, 0, 0)
def rxM17 : rx_Mt := (11, cX11_mostOfTerm, 1, (some .int), yX11_mostOfTerm, false, 0, 0)
def rxM18 : rx_Mt := (11, cX11_chances, 8, (some .long), yX11_chances, false, 0, 0)
def rxM19 : rx_Mt := (12, cX12_in, 6, (some .boolean), yX12_in, false, 0, 0)
def rxM20 : rx_Mt := (12, cX12_isPlace, 2, (some .boolean), yX12_isPlace, false, 0, 0)
def rxM21 : rx_Mt := (12, cX12_isSaid, 1, (some .boolean), yX12_isSaid, false, 0, 0)
def rxM22 : rx_Mt := (0, cX0_markFits, 3, none, yX0_markFits, false, 0, 0)
def rxM23 : rx_Mt := (0, cX0_countWays, 4, none, yX0_countWays, false, 0, 0)
def rxM24 : rx_Mt := (0, cX0_findRow, 4, (some .boolean), yX0_findRow, false, 0, 0)
def rxM25 : rx_Mt := (4, cX4_wordsOf, 3, (some .int), yX4_wordsOf, false, 0, 0)
def rxM26 : rx_Mt := (4, cX4_search, 5, none, yX4_search, false, 0, 0)
def rxM27 : rx_Mt := (4, cX4_explore, 6, none, yX4_explore, false, 0, 0)
def rxM28 : rx_Mt := (4, cX4_wordsHere, 4, (some .int), yX4_wordsHere, false, 0, 0)
def rxM29 : rx_Mt := (4, cX4_stateBehindRow, 3, (some .int), yX4_stateBehindRow, false, 0, 0)
def rxM30 : rx_Mt := (7, cX7_isWord, 3, (some .boolean), yX7_isWord, false, 0, 0)
def rxM31 : rx_Mt := (6, cX6_clear, 1, none, yX6_clear, false, 0, 0)
def rxM32 : rx_Mt := (7, cX7_advance, 3, none, yX7_advance, false, 0, 0)
def rxM33 : rx_Mt := (7, cX7_readLawClause, 3, (some .boolean), yX7_readLawClause, false, 0, 0)
def rxM34 : rx_Mt := (7, cX7_fail, 1, (some .boolean), yX7_fail, false, 0, 0)
def rxM35 : rx_Mt := (9, cX9_clear, 1, none, yX9_clear, false, 0, 0)
def rxM36 : rx_Mt := (9, cX9_copyFrom, 2, none, yX9_copyFrom, false, 0, 0)
def rxM37 : rx_Mt := (5, cX5_copyFrom, 2, none, yX5_copyFrom, false, 0, 0)
def rxM38 : rx_Mt := (2, cX2_copyFrom, 2, none, yX2_copyFrom, false, 0, 0)
def rxM39 : rx_Mt := (11, cX11_refuse, 2, (some .int), yX11_refuse, false, 0, 0)
def rxM40 : rx_Mt := (10, cX10_addPart, 3, (some .int), yX10_addPart, false, 0, 0)
def rxM41 : rx_Mt := (11, cX11_accept, 2, (some .int), yX11_accept, false, 0, 0)
def rxM42 : rx_Mt := (10, cX10_hasPart, 2, (some .boolean), yX10_hasPart, false, 0, 0)
def rxM43 : rx_Mt := (5, cX5_add, 4, (some .int), yX5_add, false, 0, 0)
def rxM44 : rx_Mt := (5, cX5_has, 2, (some .boolean), yX5_has, false, 0, 0)
def rxM45 : rx_Mt := (11, cX11_putBytes, 3, none, yX11_putBytes, false, 0, 0)
def rxM46 : rx_Mt := (7, cX7_read, 7, (some .boolean), yX7_read, false, 0, 0)
def rxM47 : rx_Mt := (10, cX10_hasLaw, 2, (some .boolean), yX10_hasLaw, false, 0, 0)
def rxM48 : rx_Mt := (10, cX10_addCue, 2, (some .int), yX10_addCue, false, 0, 0)
def rxM49 : rx_Mt := (10, cX10_hasVersion, 2, (some .boolean), yX10_hasVersion, false, 0, 0)
def rxM50 : rx_Mt := (11, cX11_seatDuet, 4, (some .boolean), yX11_seatDuet, false, 0, 0)
def rxM51 : rx_Mt := (0, cX0_lay, 5, none, yX0_lay, false, 0, 0)
def rxM52 : rx_Mt := (0, cX0_solve, 3, none, yX0_solve, false, 0, 0)
def rxM53 : rx_Mt := (0, cX0_playerOf, 2, (some .int), yX0_playerOf, false, 0, 0)
def rxM54 : rx_Mt := (2, cX2_add, 4, (some .int), yX2_add, false, 0, 0)
def rxM55 : rx_Mt := (4, cX4_lay, 4, none, yX4_lay, false, 0, 0)
def rxM56 : rx_Mt := (4, cX4_fewestStates, 2, (some .int), yX4_fewestStates, false, 0, 0)
def rxM57 : rx_Mt := (4, cX4_countWays, 2, (some .int), yX4_countWays, false, 0, 0)
def rxM58 : rx_Mt := (4, cX4_wordsBehind, 4, (some .int), yX4_wordsBehind, false, 0, 0)
def rxM59 : rx_Mt := (10, cX10_copyFrom, 3, none, yX10_copyFrom, false, 0, 0)
def rxM60 : rx_Mt := (12, cX12_begin_, 5, (some .int), yX12_begin_, false, 0, 0)
def rxM61 : rx_Mt := (11, cX11_learn, 5, (some .int), yX11_learn, false, 0, 0)
def rxM62 : rx_Mt := (12, cX12_learn, 14, (some .int), yX12_learn, false, 0, 0)
def rxM63 : rx_Mt := (11, cX11_undo, 1, (some .int), yX11_undo, false, 0, 0)
def rxM64 : rx_Mt := (12, cX12_undo, 1, (some .int), yX12_undo, false, 0, 0)
def rxM65 : rx_Mt := (11, cX11_version, 4, (some .int), yX11_version, false, 0, 0)
def rxM66 : rx_Mt := (12, cX12_version, 5, (some .int), yX12_version, false, 0, 0)
def rxM67 : rx_Mt := (11, cX11_knows, 5, (some .int), yX11_knows, false, 0, 0)
def rxM68 : rx_Mt := (12, cX12_knows, 5, (some .int), yX12_knows, false, 0, 0)
def rxM69 : rx_Mt := (11, cX11_says, 3, (some .int), yX11_says, false, 0, 0)
def rxM70 : rx_Mt := (12, cX12_says, 3, (some .int), yX12_says, false, 0, 0)
def rxM71 : rx_Mt := (11, cX11_stops, 4, (some .int), yX11_stops, false, 0, 0)
def rxM72 : rx_Mt := (12, cX12_stops, 2, (some .int), yX12_stops, false, 0, 0)
def rxM73 : rx_Mt := (11, cX11_apart, 4, (some .int), yX11_apart, false, 0, 0)
def rxM74 : rx_Mt := (11, cX11_part, 3, (some .int), yX11_part, false, 0, 0)
def rxM75 : rx_Mt := (12, cX12_apart, 4, (some .int), yX12_apart, false, 0, 0)
def rxM76 : rx_Mt := (11, cX11_trap, 4, (some .int), yX11_trap, false, 0, 0)
def rxM77 : rx_Mt := (12, cX12_trap, 3, (some .int), yX12_trap, false, 0, 0)
def rxM78 : rx_Mt := (11, cX11_talk, 5, (some .int), yX11_talk, false, 0, 0)
def rxM79 : rx_Mt := (12, cX12_talk, 6, (some .int), yX12_talk, false, 0, 0)
def rxM80 : rx_Mt := (11, cX11_mends, 5, (some .int), yX11_mends, false, 0, 0)
def rxM81 : rx_Mt := (12, cX12_mends, 9, (some .int), yX12_mends, false, 0, 0)
def rxM82 : rx_Mt := (11, cX11_vote, 4, (some .int), yX11_vote, false, 0, 0)
def rxM83 : rx_Mt := (12, cX12_vote, 6, (some .int), yX12_vote, false, 0, 0)
def rxM84 : rx_Mt := (11, cX11_drift, 3, (some .long), yX11_drift, false, 0, 0)
def rxM85 : rx_Mt := (12, cX12_drift, 6, (some .long), yX12_drift, false, 0, 0)
def rxM86 : rx_Mt := (11, cX11_origin, 5, (some .int), yX11_origin, false, 0, 0)
def rxM87 : rx_Mt := (12, cX12_origin, 4, (some .int), yX12_origin, false, 0, 0)
def rxM88 : rx_Mt := (11, cX11_origins, 9, (some .long), yX11_origins, false, 0, 0)
def rxM89 : rx_Mt := (12, cX12_origins, 12, (some .long), yX12_origins, false, 0, 0)
def rxM90 : rx_Mt := (11, cX11_chain, 4, (some .int), yX11_chain, false, 0, 0)
def rxM91 : rx_Mt := (12, cX12_chain, 8, (some .int), yX12_chain, false, 0, 0)
def rxM92 : rx_Mt := (11, cX11_cast, 2, (some .int), yX11_cast, false, 0, 0)
def rxM93 : rx_Mt := (12, cX12_cast, 2, (some .int), yX12_cast, false, 0, 0)
def rxM94 : rx_Mt := (11, cX11_deed, 4, (some .int), yX11_deed, false, 0, 0)
def rxM95 : rx_Mt := (12, cX12_part, 5, (some .int), yX12_part, false, 0, 0)
def rxM96 : rx_Mt := (12, cX12_deed, 5, (some .int), yX12_deed, false, 0, 0)
def rxM97 : rx_Mt := (11, cX11_forget, 2, (some .int), yX11_forget, false, 0, 0)
def rxM98 : rx_Mt := (12, cX12_forget, 2, (some .int), yX12_forget, false, 0, 0)
def rxM99 : rx_Mt := (11, cX11_judge, 2, (some .int), yX11_judge, false, 0, 0)
def rxM100 : rx_Mt := (12, cX12_judge, 6, (some .int), yX12_judge, false, 0, 0)
def rxM101 : rx_Mt := (11, cX11_rule, 8, (some .int), yX11_rule, false, 0, 0)
def rxM102 : rx_Mt := (11, cX11_least, 3, (some .int), yX11_least, false, 0, 0)
def rxM103 : rx_Mt := (12, cX12_least, 3, (some .int), yX12_least, false, 0, 0)
def rxM104 : rx_Mt := (11, cX11_would, 4, (some .int), yX11_would, false, 0, 0)
def rxM105 : rx_Mt := (12, cX12_would, 3, (some .int), yX12_would, false, 0, 0)
def rxM106 : rx_Mt := (11, cX11_century, 4, (some .int), yX11_century, false, 0, 0)
def rxM107 : rx_Mt := (12, cX12_century, 8, (some .int), yX12_century, false, 0, 0)
def rxM108 : rx_Mt := (11, cX11_drawn, 4, (some .int), yX11_drawn, false, 0, 0)
def rxM109 : rx_Mt := (12, cX12_drawn, 4, (some .int), yX12_drawn, false, 0, 0)
def rxM110 : rx_Mt := (11, cX11_image, 2, (some .int), yX11_image, false, 0, 0)
def rxM111 : rx_Mt := (12, cX12_image, 3, (some .int), yX12_image, false, 0, 0)
def rxM112 : rx_Mt := (11, cX11_back, 2, (some .int), yX11_back, false, 0, 0)
def rxM113 : rx_Mt := (12, cX12_back, 3, (some .int), yX12_back, false, 0, 0)
def rxM114 : rx_Mt := (11, cX11_count, 2, (some .int), yX11_count, false, 0, 0)
def rxM115 : rx_Mt := (12, cX12_count, 2, (some .int), yX12_count, false, 0, 0)
def rxM116 : rx_Mt := (11, cX11_status, 1, (some .int), yX11_status, false, 0, 0)
def rxM117 : rx_Mt := (12, cX12_status, 1, (some .int), yX12_status, false, 0, 0)
def rxM118 : rx_Mt := (12, cX12_rule, 6, (some .int), yX12_rule, false, 0, 0)
def rxM119 : rx_Mt := (11, cX11_hush, 6, (some .int), yX11_hush, false, 0, 0)
def rxM120 : rx_Mt := (12, cX12_hush, 4, (some .int), yX12_hush, false, 0, 0)
def rxM121 : rx_Mt := (11, cX11_of, 5, (some .int), yX11_of, false, 0, 0)
def rxM122 : rx_Mt := (12, cX12_of, 5, (some .int), yX12_of, false, 0, 0)
def rxM123 : rx_Mt := (11, cX11_stage, 3, (some .int), yX11_stage, false, 0, 0)
def rxM124 : rx_Mt := (12, cX12_stage, 5, (some .int), yX12_stage, false, 0, 0)
def rxM125 : rx_Mt := (11, cX11_person, 4, (some .int), yX11_person, false, 0, 0)
def rxM126 : rx_Mt := (12, cX12_person, 5, (some .int), yX12_person, false, 0, 0)
def rxM127 : rx_Mt := (11, cX11_put, 8, (some .int), yX11_put, false, 0, 0)
def rxM128 : rx_Mt := (12, cX12_put, 7, (some .int), yX12_put, false, 0, 0)
def rxM129 : rx_Mt := (11, cX11_fact, 4, (some .int), yX11_fact, false, 0, 0)
def rxM130 : rx_Mt := (12, cX12_fact, 3, (some .int), yX12_fact, false, 0, 0)
def rxM131 : rx_Mt := (11, cX11_terms, 4, (some .int), yX11_terms, false, 0, 0)
def rxM132 : rx_Mt := (12, cX12_terms, 5, (some .int), yX12_terms, false, 0, 0)
def rxM133 : rx_Mt := (11, cX11_feed, 6, (some .int), yX11_feed, false, 0, 0)
def rxM134 : rx_Mt := (12, cX12_feed, 6, (some .int), yX12_feed, false, 0, 0)
def rxM135 : rx_Mt := (11, cX11_end, 2, (some .int), yX11_end, false, 0, 0)
def rxM136 : rx_Mt := (12, cX12_end, 2, (some .int), yX12_end, false, 0, 0)
def rxM137 : rx_Mt := (11, cX11_row, 5, (some .int), yX11_row, false, 0, 0)
def rxM138 : rx_Mt := (12, cX12_row, 5, (some .int), yX12_row, false, 0, 0)
def rxM139 : rx_Mt := (11, cX11_prattle, 1, (some .int), yX11_prattle, false, 0, 0)
def rxM140 : rx_Mt := (12, cX12_prattle, 1, (some .int), yX12_prattle, false, 0, 0)
def rxM141 : rx_Mt := (11, cX11_play, 3, (some .int), yX11_play, false, 0, 0)
def rxM142 : rx_Mt := (12, cX12_play, 6, (some .int), yX12_play, false, 0, 0)
def rxM143 : rx_Mt := (11, cX11_law, 2, (some .int), yX11_law, false, 0, 0)
def rxM144 : rx_Mt := (12, cX12_law, 3, (some .int), yX12_law, false, 0, 0)
def rxM145 : rx_Mt := (11, cX11_fault, 1, (some .int), yX11_fault, false, 0, 0)
def rxM146 : rx_Mt := (12, cX12_fault, 1, (some .int), yX12_fault, false, 0, 0)
def rxM147 : rx_Mt := (11, cX11_force, 3, (some .int), yX11_force, false, 0, 0)
def rxM148 : rx_Mt := (12, cX12_force, 3, (some .int), yX12_force, false, 0, 0)
def rxM149 : rx_Mt := (11, cX11_asks, 5, (some .int), yX11_asks, false, 0, 0)
def rxM150 : rx_Mt := (12, cX12_asks, 6, (some .int), yX12_asks, false, 0, 0)
def rxM151 : rx_Mt := (11, cX11_cue, 2, (some .int), yX11_cue, false, 0, 0)
def rxM152 : rx_Mt := (12, cX12_cue, 3, (some .int), yX12_cue, false, 0, 0)
def rxM153 : rx_Mt := (11, cX11_still, 2, (some .int), yX11_still, false, 0, 0)
def rxM154 : rx_Mt := (12, cX12_still, 2, (some .int), yX12_still, false, 0, 0)
def rxM155 : rx_Mt := (11, cX11_begin, 4, (some .int), yX11_begin, false, 0, 0)
def rxM156 : rx_Mt := (12, cX12_tell, 2, (some .int), yX12_tell, false, 0, 0)
def rxM157 : rx_Mt := (12, cX12_was, 2, (some .int), yX12_was, false, 0, 0)
def rxM158 : rx_Mt := (12, cX12_isPart, 2, (some .boolean), yX12_isPart, false, 0, 0)
def rxM159 : rx_Mt := (12, cX12_isPerson, 2, (some .boolean), yX12_isPerson, false, 0, 0)
def rxM160 : rx_Mt := (12, cX12_four, 3, none, yX12_four, false, 0, 0)
def rxM161 : rx_Mt := (12, cX12_next, 1, none, yX12_next, false, 0, 0)
def rxM162 : rx_Mt := (12, cX12_must, 2, none, yX12_must, false, 0, 0)
def rxM163 : rx_Mt := (12, cX12_isWord, 3, (some .boolean), yX12_isWord, false, 0, 0)
def rxM164 : rx_Mt := (12, cX12_begin, 1, none, yX12_begin, false, 0, 0)
def rxM165 : rx_Mt := (12, cX12_beginText, 2, none, yX12_beginText, false, 0, 0)
def rxM166 : rx_Mt := (12, cX12_readLaw, 4, none, yX12_readLaw, false, 0, 0)
def rxM167 : rx_Mt := (12, cX12_endText, 1, none, yX12_endText, false, 0, 0)
def rxM168 : rx_Mt := (12, cX12_isVersion, 2, (some .boolean), yX12_isVersion, false, 0, 0)
def rxM169 : rx_Mt := (12, cX12_isTalk, 4, (some .boolean), yX12_isTalk, false, 0, 0)
def rxM170 : rx_Mt := (12, cX12_keepCast, 5, none, yX12_keepCast, false, 0, 0)
def rxM171 : rx_Mt := (12, cX12_findCast, 3, none, yX12_findCast, false, 0, 0)
def rxM172 : rx_Mt := (12, cX12_meet, 7, none, yX12_meet, false, 0, 0)
def rxM173 : rx_Mt := (12, cX12_findOrder, 4, none, yX12_findOrder, false, 0, 0)
def rxM174 : rx_Mt := (12, cX12_findWays, 6, none, yX12_findWays, false, 0, 0)
def rxM175 : rx_Mt := (12, cX12_findLeast, 4, (some .int), yX12_findLeast, false, 0, 0)
def rxML0 : List (rx_Mt × Nat × Nat × Nat × Nat × Nat) := [(rxM0, 93, 72, 0, 92, 0), (rxM1, 109, 57, 0, 108, 0), (rxM2, 122, 28, 0, 121, 0), (rxM3, 100, 83, 0, 99, 0), (rxM4, 63, 14, 0, 62, 0), (rxM5, 137, 24, 0, 136, 0), (rxM6, 154, 35, 0, 153, 0), (rxM7, 164, 39, 0, 163, 0), (rxM8, 184, 43, 0, 183, 0), (rxM9, 201, 47, 0, 200, 0), (rxM10, 214, 51, 0, 213, 0), (rxM11, 229, 5, 0, 228, 0), (rxM12, 8, 2, 0, 7, 0), (rxM13, 1584, 43, 1583, 0, 0), (rxM14, 323, 2, 322, 0, 0), (rxM15, 428, 2, 427, 0, 0), (rxM16, 445, 2, 444, 0, 0), (rxM17, 493, 2, 492, 0, 0), (rxM18, 1344, 2, 1343, 0, 0), (rxM19, 311, 5, 310, 0, 0), (rxM20, 347, 5, 346, 0, 0), (rxM21, 350, 5, 349, 0, 0), (rxM22, 1472, 51, 0, 1470, 1471), (rxM23, 1476, 51, 0, 1474, 1475), (rxM24, 1485, 51, 0, 1483, 1484), (rxM25, 1588, 43, 0, 1586, 1587), (rxM26, 1567, 43, 0, 1565, 1566), (rxM27, 1573, 43, 0, 1571, 1572), (rxM28, 1577, 43, 0, 1575, 1576), (rxM29, 1581, 43, 0, 1579, 1580), (rxM30, 584, 24, 0, 582, 583), (rxM31, 560, 28, 0, 558, 559), (rxM32, 564, 24, 0, 562, 563), (rxM33, 736, 24, 0, 734, 735), (rxM34, 637, 24, 0, 635, 636), (rxM35, 116, 57, 0, 114, 115), (rxM36, 1071, 57, 0, 1069, 1070), (rxM37, 1714, 72, 0, 1712, 1713), (rxM38, 1719, 83, 0, 1717, 1718), (rxM39, 292, 2, 0, 290, 291)]
def rxML1 : List (rx_Mt × Nat × Nat × Nat × Nat × Nat) := [(rxM40, 296, 14, 0, 294, 295), (rxM41, 301, 2, 0, 299, 300), (rxM42, 327, 14, 0, 325, 326), (rxM43, 432, 72, 0, 430, 431), (rxM44, 449, 72, 0, 447, 448), (rxM45, 506, 2, 0, 504, 505), (rxM46, 552, 24, 0, 550, 551), (rxM47, 985, 14, 0, 983, 984), (rxM48, 1037, 14, 0, 1035, 1036), (rxM49, 1088, 14, 0, 1086, 1087), (rxM50, 1238, 2, 0, 1236, 1237), (rxM51, 1462, 51, 0, 1460, 1461), (rxM52, 1468, 51, 0, 1466, 1467), (rxM53, 1493, 51, 0, 1491, 1492), (rxM54, 1524, 83, 0, 1522, 1523), (rxM55, 1559, 43, 0, 1557, 1558), (rxM56, 1563, 43, 0, 1561, 1562), (rxM57, 1601, 43, 0, 1599, 1600), (rxM58, 1643, 43, 0, 1641, 1642), (rxM59, 1708, 14, 0, 1706, 1707), (rxM60, 1076, 5, 0, 1074, 1075), (rxM61, 1084, 2, 0, 1082, 1083), (rxM62, 1117, 5, 0, 1115, 1116), (rxM63, 1133, 2, 0, 1131, 1132), (rxM64, 1137, 5, 0, 1135, 1136), (rxM65, 1141, 2, 0, 1139, 1140), (rxM66, 1149, 5, 0, 1147, 1148), (rxM67, 1154, 2, 0, 1152, 1153), (rxM68, 1158, 5, 0, 1156, 1157), (rxM69, 1162, 2, 0, 1160, 1161), (rxM70, 1170, 5, 0, 1168, 1169), (rxM71, 1179, 2, 0, 1177, 1178), (rxM72, 1183, 5, 0, 1181, 1182), (rxM73, 1187, 2, 0, 1185, 1186), (rxM74, 288, 2, 0, 286, 287), (rxM75, 1209, 5, 0, 1207, 1208), (rxM76, 1226, 2, 0, 1224, 1225), (rxM77, 1230, 5, 0, 1228, 1229), (rxM78, 1234, 2, 0, 1232, 1233), (rxM79, 1277, 5, 0, 1275, 1276)]
def rxML2 : List (rx_Mt × Nat × Nat × Nat × Nat × Nat) := [(rxM80, 1295, 2, 0, 1293, 1294), (rxM81, 1309, 5, 0, 1307, 1308), (rxM82, 1313, 2, 0, 1311, 1312), (rxM83, 1332, 5, 0, 1330, 1331), (rxM84, 1340, 2, 0, 1338, 1339), (rxM85, 1348, 5, 0, 1346, 1347), (rxM86, 1353, 2, 0, 1351, 1352), (rxM87, 1365, 5, 0, 1363, 1364), (rxM88, 1377, 2, 0, 1375, 1376), (rxM89, 1396, 5, 0, 1394, 1395), (rxM90, 1401, 2, 0, 1399, 1400), (rxM91, 1434, 5, 0, 1432, 1433), (rxM92, 1458, 2, 0, 1456, 1457), (rxM93, 1497, 5, 0, 1495, 1496), (rxM94, 1520, 2, 0, 1518, 1519), (rxM95, 305, 5, 0, 303, 304), (rxM96, 1528, 5, 0, 1526, 1527), (rxM97, 1532, 2, 0, 1530, 1531), (rxM98, 1536, 5, 0, 1534, 1535), (rxM99, 1540, 2, 0, 1538, 1539), (rxM100, 1551, 5, 0, 1549, 1550), (rxM101, 320, 2, 0, 318, 319), (rxM102, 1555, 2, 0, 1553, 1554), (rxM103, 1605, 5, 0, 1603, 1604), (rxM104, 1639, 2, 0, 1637, 1638), (rxM105, 1647, 5, 0, 1645, 1646), (rxM106, 1651, 2, 0, 1649, 1650), (rxM107, 1678, 5, 0, 1676, 1677), (rxM108, 1692, 2, 0, 1690, 1691), (rxM109, 1700, 5, 0, 1698, 1699), (rxM110, 1704, 2, 0, 1702, 1703), (rxM111, 1724, 5, 0, 1722, 1723), (rxM112, 1728, 2, 0, 1726, 1727), (rxM113, 1732, 5, 0, 1730, 1731), (rxM114, 1736, 2, 0, 1734, 1735), (rxM115, 1740, 5, 0, 1738, 1739), (rxM116, 1746, 2, 0, 1744, 1745), (rxM117, 1750, 5, 0, 1748, 1749), (rxM118, 343, 5, 0, 341, 342), (rxM119, 370, 2, 0, 368, 369)]
def rxML3 : List (rx_Mt × Nat × Nat × Nat × Nat × Nat) := [(rxM120, 379, 5, 0, 377, 378), (rxM121, 383, 2, 0, 381, 382), (rxM122, 394, 5, 0, 392, 393), (rxM123, 404, 2, 0, 402, 403), (rxM124, 416, 5, 0, 414, 415), (rxM125, 425, 2, 0, 423, 424), (rxM126, 436, 5, 0, 434, 435), (rxM127, 442, 2, 0, 440, 441), (rxM128, 453, 5, 0, 451, 452), (rxM129, 465, 2, 0, 463, 464), (rxM130, 478, 5, 0, 476, 477), (rxM131, 490, 2, 0, 488, 489), (rxM132, 497, 5, 0, 495, 496), (rxM133, 502, 2, 0, 500, 501), (rxM134, 510, 5, 0, 508, 509), (rxM135, 519, 2, 0, 517, 518), (rxM136, 523, 5, 0, 521, 522), (rxM137, 527, 2, 0, 525, 526), (rxM138, 535, 5, 0, 533, 534), (rxM139, 540, 2, 0, 538, 539), (rxM140, 544, 5, 0, 542, 543), (rxM141, 548, 2, 0, 546, 547), (rxM142, 786, 5, 0, 784, 785), (rxM143, 946, 2, 0, 944, 945), (rxM144, 962, 5, 0, 960, 961), (rxM145, 973, 2, 0, 971, 972), (rxM146, 977, 5, 0, 975, 976), (rxM147, 981, 2, 0, 979, 980), (rxM148, 989, 5, 0, 987, 988), (rxM149, 993, 2, 0, 991, 992), (rxM150, 1007, 5, 0, 1005, 1006), (rxM151, 1033, 2, 0, 1031, 1032), (rxM152, 1041, 5, 0, 1039, 1040), (rxM153, 1045, 2, 0, 1043, 1044), (rxM154, 1049, 5, 0, 1047, 1048), (rxM155, 1053, 2, 0, 1051, 1052), (rxM156, 315, 5, 0, 313, 314), (rxM157, 366, 5, 0, 364, 365), (rxM158, 355, 5, 0, 353, 354), (rxM159, 457, 5, 0, 455, 456)]
def rxML4 : List (rx_Mt × Nat × Nat × Nat × Nat × Nat) := [(rxM160, 515, 5, 0, 513, 514), (rxM161, 804, 5, 0, 802, 803), (rxM162, 837, 5, 0, 835, 836), (rxM163, 833, 5, 0, 831, 832), (rxM164, 799, 5, 0, 797, 798), (rxM165, 793, 5, 0, 791, 792), (rxM166, 966, 5, 0, 964, 965), (rxM167, 922, 5, 0, 920, 921), (rxM168, 1121, 5, 0, 1119, 1120), (rxM169, 1285, 5, 0, 1283, 1284), (rxM170, 1508, 5, 0, 1506, 1507), (rxM171, 1503, 5, 0, 1501, 1502), (rxM172, 1623, 5, 0, 1621, 1622), (rxM173, 1614, 5, 0, 1612, 1613), (rxM174, 1618, 5, 0, 1616, 1617), (rxM175, 1610, 5, 0, 1608, 1609)]
def rxML : List (rx_Mt × Nat × Nat × Nat × Nat × Nat) := rxML0 ++ rxML1 ++ rxML2 ++ rxML3 ++ rxML4
def rxIm : rx_Im := fun M n pc => n == 6180 && (pc == 24 && (M.1 == 12 && decide (M.2.1 = cX12_image)))
def rxT : rx_Tb := (fun o i => (rx_lku (rxFrL o) i).map (fun q => q.1), fun o i => (rx_lku (rxCrL o) i).map (fun q => q.1), fun o i => (rx_lku (rxArL o) i).map (fun q => q.1), fun o i => (rx_lku (rxKcL o) i).map (fun q => .inr (q.1, (0, q.2.1))), fun o i => (rx_lku (rxCjL o) i).map (fun q => q.1), fun j => (rxML[j]?).map (fun q => q.1))
def rxXh : rx_Xh := rx_xh (fun o i => rx_lku (rxXtL o) i) (fun o i => rx_lku (rxStL o) i) rxSlen rxIm
end
section
/-! TABLES, by program: what each place of the code does -/
def rxMlaw : rx_Mt := (13, code, 4, ret, x, false, 600000, 7302250)
noncomputable def rxE0_0 : List (Option rx_Ent) := [some (.inl (fun _ => rx_q_loadA 0 1)), some (.inl (fun _ => rx_x_init)), none, none, some (.inl (fun _ => rx_q_loadA 0 1)), some (.inl (fun _ => rx_h_push (rx_n 0) 1)), some (.inl (fun _ => rx_q_put (5, 0, 0, false, false) true)), none, none, some (.inl (fun _ => rx_q_loadA 0 1)), some (.inl (fun _ => rx_h_push (rx_n 8) 2)), none, some (.inl (fun _ => rx_q_newa 3 24 0)), none, some (.inl (fun _ => rx_q_put (5, 1, 3, true, false) true))]
noncomputable def rxE0_1 : List (Option rx_Ent) := [none, some (.inl (fun _ => rx_q_loadA 0 1)), some (.inl (fun _ => rx_h_push (rx_n 8) 2)), none, some (.inl (fun _ => rx_q_newa 3 24 0)), none, some (.inl (fun _ => rx_q_put (5, 2, 3, true, false) true)), none, none, some (.inl (fun _ => rx_q_loadA 0 1)), some (.inl (fun _ => rx_h_push (rx_n 8) 2)), none, some (.inl (fun _ => rx_q_newa 3 24 0)), none, some (.inl (fun _ => rx_q_put (5, 3, 3, true, false) true))]
noncomputable def rxE0_2 : List (Option rx_Ent) := [none, some (.inr (.inl (rx_q_retv 3 24)))]
noncomputable def rxE0 : List (List (Option rx_Ent)) := [rxE0_0, rxE0_1, rxE0_2]
noncomputable def rxE1_0 : List (Option rx_Ent) := [some (.inl (fun _ => rx_q_loadA 0 1)), some (.inl (fun _ => rx_x_init)), none, none, some (.inl (fun _ => rx_q_loadA 0 1)), some (.inl (fun _ => rx_h_push (rx_n 36) 2)), none, some (.inl (fun _ => rx_q_newa 2 72 0)), none, some (.inl (fun _ => rx_q_put (9, 0, 3, true, false) true)), none, none, some (.inl (fun _ => rx_q_loadA 0 1)), some (.inl (fun _ => rx_h_push (rx_n 36) 2)), none, some (.inl (fun _ => rx_q_newa 2 72 0))]
noncomputable def rxE1_1 : List (Option rx_Ent) := [none, some (.inl (fun _ => rx_q_put (9, 1, 3, true, false) true)), none, none, some (.inl (fun _ => rx_q_loadA 0 1)), some (.inr (.inr (35, rxM35, rx_q_vcall rxM1 rxM35 0 9))), none, none, some (.inr (.inl (rx_q_retv 2 72)))]
noncomputable def rxE1 : List (List (Option rx_Ent)) := [rxE1_0, rxE1_1]
noncomputable def rxE2_0 : List (Option rx_Ent) := [some (.inl (fun _ => rx_q_loadA 0 1)), some (.inl (fun _ => rx_x_init)), none, none, some (.inl (fun _ => rx_q_loadA 0 1)), some (.inl (fun _ => rx_h_push (rx_n 0) 1)), some (.inl (fun _ => rx_q_put (6, 0, 0, false, false) true)), none, none, some (.inl (fun _ => rx_q_loadA 0 1)), some (.inl (fun _ => rx_h_push (rx_n 400) 3)), none, none, some (.inl (fun _ => rx_q_newa 9 936 0)), none, some (.inl (fun _ => rx_q_put (6, 1, 3, true, false) true))]
noncomputable def rxE2_1 : List (Option rx_Ent) := [none, none, some (.inl (fun _ => rx_q_loadA 0 1)), some (.inl (fun _ => rx_h_push (rx_n 400) 3)), none, none, some (.inl (fun _ => rx_q_newa 9 936 0)), none, some (.inl (fun _ => rx_q_put (6, 2, 3, true, false) true)), none, none, some (.inl (fun _ => rx_q_loadA 0 1)), some (.inl (fun _ => rx_h_push (rx_n 64) 2)), none, some (.inl (fun _ => rx_q_newa 9 936 2))]
noncomputable def rxE2_2 : List (Option rx_Ent) := [some (.inl (fun _ => rx_q_put (6, 3, 3, true, false) true)), none, none, some (.inl (fun _ => rx_q_loadA 0 1)), some (.inl (fun _ => rx_h_push (rx_n 0) 1)), some (.inl (fun _ => rx_q_put (6, 4, 0, false, false) true)), none, none, some (.inl (fun _ => rx_q_loadA 0 1)), some (.inl (fun _ => rx_h_push (rx_n 12) 2)), none, some (.inl (fun _ => rx_q_newa 9 936 0)), none, some (.inl (fun _ => rx_q_put (6, 5, 3, true, false) true))]
noncomputable def rxE2_3 : List (Option rx_Ent) := [some (.inl (fun _ => rx_q_loadA 0 1)), some (.inl (fun _ => rx_h_push (rx_n 12) 2)), none, some (.inl (fun _ => rx_q_newa 9 936 0)), none, some (.inl (fun _ => rx_q_put (6, 6, 3, true, false) true)), none, none, some (.inl (fun _ => rx_q_loadA 0 1)), some (.inl (fun _ => rx_h_push (rx_n 12) 2)), none, some (.inl (fun _ => rx_q_newa 9 936 0)), none, some (.inl (fun _ => rx_q_put (6, 7, 3, true, false) true))]
noncomputable def rxE2_4 : List (Option rx_Ent) := [some (.inl (fun _ => rx_q_loadA 0 1)), some (.inl (fun _ => rx_h_push (rx_n 12) 2)), none, some (.inl (fun _ => rx_q_newa 9 936 0)), none, some (.inl (fun _ => rx_q_put (6, 8, 3, true, false) true)), none, none, some (.inl (fun _ => rx_q_loadA 0 1)), some (.inl (fun _ => rx_h_push (rx_n 12) 2)), none, some (.inl (fun _ => rx_q_newa 9 936 0)), none, some (.inl (fun _ => rx_q_put (6, 9, 3, true, false) true))]
noncomputable def rxE2_5 : List (Option rx_Ent) := [some (.inl (fun _ => rx_q_loadA 0 1)), some (.inl (fun _ => rx_h_push (rx_n 12) 2)), none, some (.inl (fun _ => rx_q_newa 9 936 0)), none, some (.inl (fun _ => rx_q_put (6, 10, 3, true, false) true)), none, none, some (.inr (.inl (rx_q_retv 9 936)))]
noncomputable def rxE2 : List (List (Option rx_Ent)) := [rxE2_0, rxE2_1, rxE2_2, rxE2_3, rxE2_4, rxE2_5]
noncomputable def rxE3_0 : List (Option rx_Ent) := [some (.inl (fun _ => rx_q_loadA 0 1)), some (.inl (fun _ => rx_x_init)), none, none, some (.inl (fun _ => rx_q_loadA 0 1)), some (.inl (fun _ => rx_h_push (rx_n 0) 1)), some (.inl (fun _ => rx_q_put (2, 0, 0, false, false) true)), none, none, some (.inl (fun _ => rx_q_loadA 0 1)), some (.inl (fun _ => rx_h_push (rx_n 12) 2)), none, some (.inl (fun _ => rx_q_newa 4 40 0)), none, some (.inl (fun _ => rx_q_put (2, 1, 3, true, false) true))]
noncomputable def rxE3_1 : List (Option rx_Ent) := [none, some (.inl (fun _ => rx_q_loadA 0 1)), some (.inl (fun _ => rx_h_push (rx_n 12) 2)), none, some (.inl (fun _ => rx_q_newa 4 40 0)), none, some (.inl (fun _ => rx_q_put (2, 2, 3, true, false) true)), none, none, some (.inl (fun _ => rx_q_loadA 0 1)), some (.inl (fun _ => rx_h_push (rx_n 12) 2)), none, some (.inl (fun _ => rx_q_newa 4 40 0)), none, some (.inl (fun _ => rx_q_put (2, 3, 3, true, false) true))]
noncomputable def rxE3_2 : List (Option rx_Ent) := [none, some (.inl (fun _ => rx_q_loadA 0 1)), some (.inl (fun _ => rx_h_push (rx_n 4) 1)), some (.inl (fun _ => rx_q_newa 4 40 0)), none, some (.inl (fun _ => rx_q_put (2, 4, 3, true, false) true)), none, none, some (.inr (.inl (rx_q_retv 4 40)))]
noncomputable def rxE3 : List (List (Option rx_Ent)) := [rxE3_0, rxE3_1, rxE3_2]
noncomputable def rxE4_0 : List (Option rx_Ent) := [some (.inl (fun _ => rx_q_loadA 0 1)), some (.inl (fun _ => rx_x_init)), none, none, some (.inl (fun _ => rx_q_loadA 0 1)), some (.inl (fun _ => rx_h_push (rx_n 0) 1)), some (.inl (fun _ => rx_q_put (10, 0, 0, false, false) true)), none, none, some (.inl (fun _ => rx_q_loadA 0 1)), some (.inl (fun _ => rx_h_push (rx_n 6) 2)), none, some (.inl (fun _ => rx_q_newa 135 7185 0)), none, some (.inl (fun _ => rx_q_put (10, 1, 3, true, false) true))]
noncomputable def rxE4_1 : List (Option rx_Ent) := [none, some (.inl (fun _ => rx_q_loadA 0 1)), some (.inl (fun _ => rx_h_push (rx_n 6) 2)), none, some (.inl (fun _ => rx_q_newa 135 7185 0)), none, some (.inl (fun _ => rx_q_put (10, 2, 3, true, false) true)), none, none, some (.inl (fun _ => rx_q_loadA 0 1)), some (.inl (fun _ => rx_h_push (rx_n 6) 2)), none, some (.inl (fun _ => rx_q_newq 9 135 7185)), none, none, some (.inl (fun _ => rx_q_put (10, 3, 3, true, false) true))]
noncomputable def rxE4_2 : List (Option rx_Ent) := [none, none, some (.inl (fun _ => rx_q_loadA 0 1)), some (.inl (fun _ => rx_q_new (5, [0, 3, 3, 3]) 135 7185)), none, none, some (.inl (fun _ => rx_h_dup)), some (.inr (.inr (0, rxM0, rx_q_vcall rxM4 rxM0 0 5))), none, none, some (.inl (fun _ => rx_q_put (10, 4, 3, true, false) true)), none, none, some (.inl (fun _ => rx_q_loadA 0 1)), some (.inl (fun _ => rx_h_push (rx_n 0) 1)), some (.inl (fun _ => rx_q_put (10, 5, 0, false, false) true))]
noncomputable def rxE4_3 : List (Option rx_Ent) := [none, none, some (.inl (fun _ => rx_q_loadA 0 1)), some (.inl (fun _ => rx_h_push (rx_n 12) 2)), none, some (.inl (fun _ => rx_q_newa 135 7185 0)), none, some (.inl (fun _ => rx_q_put (10, 6, 3, true, false) true)), none, none, some (.inl (fun _ => rx_q_loadA 0 1)), some (.inl (fun _ => rx_h_push (rx_n 12) 2)), none, some (.inl (fun _ => rx_q_newa 135 7185 0)), none, some (.inl (fun _ => rx_q_put (10, 7, 3, true, false) true))]
noncomputable def rxE4_4 : List (Option rx_Ent) := [none, none, some (.inl (fun _ => rx_q_loadA 0 1)), some (.inl (fun _ => rx_h_push (rx_n 12) 2)), none, some (.inl (fun _ => rx_q_newa 135 7185 0)), none, some (.inl (fun _ => rx_q_put (10, 8, 3, true, false) true)), none, none, some (.inl (fun _ => rx_q_loadA 0 1)), some (.inl (fun _ => rx_h_push (rx_n 12) 2)), none, some (.inl (fun _ => rx_q_newq 9 135 7185))]
noncomputable def rxE4_5 : List (Option rx_Ent) := [some (.inl (fun _ => rx_q_put (10, 9, 3, true, false) true)), none, none, some (.inl (fun _ => rx_q_loadA 0 1)), some (.inl (fun _ => rx_h_push (rx_n 0) 1)), some (.inl (fun _ => rx_q_put (10, 10, 0, false, false) true)), none, none, some (.inl (fun _ => rx_q_loadA 0 1)), some (.inl (fun _ => rx_h_push (rx_n 12) 2)), none, some (.inl (fun _ => rx_q_newa 135 7185 0)), none, some (.inl (fun _ => rx_q_put (10, 11, 3, true, false) true))]
noncomputable def rxE4_6 : List (Option rx_Ent) := [some (.inl (fun _ => rx_q_loadA 0 1)), some (.inl (fun _ => rx_q_new (2, [0, 3, 3, 3, 3]) 135 7185)), none, none, some (.inl (fun _ => rx_h_dup)), some (.inr (.inr (3, rxM3, rx_q_vcall rxM4 rxM3 0 2))), none, none, some (.inl (fun _ => rx_q_put (10, 12, 3, true, false) true)), none, none, some (.inl (fun _ => rx_q_loadA 0 1)), some (.inl (fun _ => rx_h_push (rx_n 3) 1)), some (.inl (fun _ => rx_q_newa 135 7185 0)), none, some (.inl (fun _ => rx_h_dup))]
noncomputable def rxE4_7 : List (Option rx_Ent) := [some (.inl (fun _ => rx_h_push (rx_n 0) 1)), some (.inl (fun _ => rx_h_push (rx_n 0) 1)), some (.inl (fun _ => rx_q_ast (rx_isTc 0) (fun I _ _ v => rx_fit I 0 v))), some (.inl (fun _ => rx_h_dup)), some (.inl (fun _ => rx_h_push (rx_n 1) 1)), some (.inl (fun _ => rx_h_push (rx_n 0) 1)), some (.inl (fun _ => rx_q_ast (rx_isTc 0) (fun I _ _ v => rx_fit I 0 v))), some (.inl (fun _ => rx_h_dup)), some (.inl (fun _ => rx_h_push (rx_n 2) 1)), some (.inl (fun _ => rx_h_push (rx_n 10) 2)), none, some (.inl (fun _ => rx_q_ast (rx_isTc 0) (fun I _ _ v => rx_fit I 0 v))), some (.inl (fun _ => rx_q_put (10, 13, 3, true, false) true)), none, none, some (.inl (fun _ => rx_q_loadA 0 1))]
noncomputable def rxE4_8 : List (Option rx_Ent) := [some (.inl (fun _ => rx_h_push (rx_n 0) 1)), some (.inl (fun _ => rx_q_put (10, 14, 0, false, false) true)), none, none, some (.inl (fun _ => rx_q_loadA 0 1)), some (.inl (fun _ => rx_h_push (rx_n (-1)) 1)), some (.inl (fun _ => rx_q_put (10, 15, 0, false, false) true)), none, none, some (.inl (fun _ => rx_q_loadA 0 1)), some (.inl (fun _ => rx_h_push (rx_n 6) 2)), none, some (.inl (fun _ => rx_q_newq 6 135 7185)), none, none, some (.inl (fun _ => rx_q_put (10, 16, 3, true, false) true))]
noncomputable def rxE4_9 : List (Option rx_Ent) := [none, none, some (.inl (fun _ => rx_q_loadA 0 1)), some (.inl (fun _ => rx_h_push (rx_n 3) 1)), some (.inl (fun _ => rx_q_newa 135 7185 0)), none, some (.inl (fun _ => rx_q_put (10, 17, 3, true, false) true)), none, none, some (.inl (fun _ => rx_q_loadA 0 1)), some (.inl (fun _ => rx_h_push (rx_n 8) 2)), none, some (.inl (fun _ => rx_q_newa 135 7185 0)), none, some (.inl (fun _ => rx_q_put (10, 18, 3, true, false) true))]
noncomputable def rxE4_10 : List (Option rx_Ent) := [none, some (.inl (fun _ => rx_h_push (rx_n 0) 1)), some (.inl (fun _ => rx_h_istore 2 1 1)), some (.inl (fun _ => rx_q_load 0 1 1)), some (.inl (fun _ => rx_h_push (rx_n 6) 2)), none, some (.inl (fun _ => rx_q_icmp .ge 188 169)), none, none, some (.inl (fun _ => rx_q_loadA 0 1)), some (.inl (fun _ => rx_q_get (10, 3, 3, true, false))), none, none, some (.inl (fun _ => rx_q_load 0 1 1)), some (.inl (fun _ => rx_q_new (9, [3, 3]) 135 7185))]
noncomputable def rxE4_11 : List (Option rx_Ent) := [none, some (.inl (fun _ => rx_h_dup)), some (.inr (.inr (1, rxM1, rx_q_vcall rxM4 rxM1 0 9))), none, none, some (.inl (fun _ => rx_q_ast rx_isRef rx_fitA)), some (.inl (fun _ => rx_h_iinc 2 1 1)), none, none, some (.inl (fun _ => rx_q_goto 163)), none, none, some (.inl (fun _ => rx_h_push (rx_n 0) 1)), some (.inl (fun _ => rx_h_istore 2 1 1)), some (.inl (fun _ => rx_q_load 0 1 1)), some (.inl (fun _ => rx_h_push (rx_n 12) 2))]
noncomputable def rxE4_12 : List (Option rx_Ent) := [none, some (.inl (fun _ => rx_q_icmp .ge 215 196)), none, none, some (.inl (fun _ => rx_q_loadA 0 1)), some (.inl (fun _ => rx_q_get (10, 9, 3, true, false))), none, none, some (.inl (fun _ => rx_q_load 0 1 1)), some (.inl (fun _ => rx_q_new (9, [3, 3]) 135 7185)), none, none, some (.inl (fun _ => rx_h_dup)), some (.inr (.inr (1, rxM1, rx_q_vcall rxM4 rxM1 0 9)))]
noncomputable def rxE4_13 : List (Option rx_Ent) := [some (.inl (fun _ => rx_q_ast rx_isRef rx_fitA)), some (.inl (fun _ => rx_h_iinc 2 1 1)), none, none, some (.inl (fun _ => rx_q_goto 190)), none, none, some (.inl (fun _ => rx_h_push (rx_n 0) 1)), some (.inl (fun _ => rx_h_istore 2 1 1)), some (.inl (fun _ => rx_q_load 0 1 1)), some (.inl (fun _ => rx_h_push (rx_n 6) 2)), none, some (.inl (fun _ => rx_q_icmp .ge 242 223)), none, none, some (.inl (fun _ => rx_q_loadA 0 1))]
noncomputable def rxE4_14 : List (Option rx_Ent) := [some (.inl (fun _ => rx_q_get (10, 16, 3, true, false))), none, none, some (.inl (fun _ => rx_q_load 0 1 1)), some (.inl (fun _ => rx_q_new (6, [0, 3, 3, 3, 0, 3, 3, 3, 3, 3, 3]) 135 7185)), none, none, some (.inl (fun _ => rx_h_dup)), some (.inr (.inr (2, rxM2, rx_q_vcall rxM4 rxM2 0 6))), none, none, some (.inl (fun _ => rx_q_ast rx_isRef rx_fitA)), some (.inl (fun _ => rx_h_iinc 2 1 1)), none, none, some (.inl (fun _ => rx_q_goto 217))]
noncomputable def rxE4_15 : List (Option rx_Ent) := [none, none, some (.inr (.inl (rx_q_retv 135 7185)))]
noncomputable def rxE4 : List (List (Option rx_Ent)) := [rxE4_0, rxE4_1, rxE4_2, rxE4_3, rxE4_4, rxE4_5, rxE4_6, rxE4_7, rxE4_8, rxE4_9, rxE4_10, rxE4_11, rxE4_12, rxE4_13, rxE4_14, rxE4_15]
noncomputable def rxE5_0 : List (Option rx_Ent) := [some (.inl (fun _ => rx_q_loadA 0 1)), some (.inl (fun _ => rx_x_init)), none, none, some (.inl (fun _ => rx_q_loadA 0 1)), some (.inl (fun _ => rx_h_push (rx_n 0) 1)), some (.inl (fun _ => rx_q_newa 14 1756 0)), none, some (.inl (fun _ => rx_q_put (7, 0, 3, false, false) true)), none, none, some (.inl (fun _ => rx_q_loadA 0 1)), some (.inl (fun _ => rx_h_push (rx_n 0) 1)), some (.inl (fun _ => rx_q_put (7, 1, 0, false, false) true))]
noncomputable def rxE5_1 : List (Option rx_Ent) := [some (.inl (fun _ => rx_q_loadA 0 1)), some (.inl (fun _ => rx_h_push (rx_n 0) 1)), some (.inl (fun _ => rx_q_put (7, 2, 0, false, false) true)), none, none, some (.inl (fun _ => rx_q_loadA 0 1)), some (.inl (fun _ => rx_h_push (rx_n 0) 1)), some (.inl (fun _ => rx_q_put (7, 3, 0, false, false) true)), none, none, some (.inl (fun _ => rx_q_loadA 0 1)), some (.inl (fun _ => rx_h_push (rx_n (-1)) 1)), some (.inl (fun _ => rx_q_put (7, 4, 0, false, false) true)), none, none, some (.inl (fun _ => rx_q_loadA 0 1))]
noncomputable def rxE5_2 : List (Option rx_Ent) := [some (.inl (fun _ => rx_h_push (rx_n 0) 1)), some (.inl (fun _ => rx_q_put (7, 5, 1, false, false) true)), none, none, some (.inl (fun _ => rx_q_loadA 0 1)), some (.inl (fun _ => rx_q_new (6, [0, 3, 3, 3, 0, 3, 3, 3, 3, 3, 3]) 14 1756)), none, none, some (.inl (fun _ => rx_h_dup)), some (.inr (.inr (2, rxM2, rx_q_vcall rxM5 rxM2 0 6))), none, none, some (.inl (fun _ => rx_q_put (7, 6, 3, false, false) true)), none, none, some (.inl (fun _ => rx_q_loadA 0 1))]
noncomputable def rxE5_3 : List (Option rx_Ent) := [some (.inl (fun _ => rx_h_push (rx_n 0) 1)), some (.inl (fun _ => rx_q_put (7, 7, 0, false, false) true)), none, none, some (.inl (fun _ => rx_q_loadA 0 1)), some (.inl (fun _ => rx_h_push (rx_n 0) 1)), some (.inl (fun _ => rx_q_put (7, 8, 0, false, false) true)), none, none, some (.inl (fun _ => rx_q_loadA 0 1)), some (.inl (fun _ => rx_h_push (rx_n 9) 2)), none, some (.inl (fun _ => rx_q_newa 14 1756 0)), none, some (.inl (fun _ => rx_q_put (7, 9, 3, true, false) true))]
noncomputable def rxE5_4 : List (Option rx_Ent) := [none, some (.inl (fun _ => rx_q_loadA 0 1)), some (.inl (fun _ => rx_h_push (rx_n 0) 1)), some (.inl (fun _ => rx_q_put (7, 10, 0, false, false) true)), none, none, some (.inl (fun _ => rx_q_loadA 0 1)), some (.inl (fun _ => rx_h_push (rx_n 400) 3)), none, none, some (.inl (fun _ => rx_q_newa 14 1756 0)), none, some (.inl (fun _ => rx_q_put (7, 11, 3, true, false) true)), none, none, some (.inl (fun _ => rx_q_loadA 0 1))]
noncomputable def rxE5_5 : List (Option rx_Ent) := [some (.inl (fun _ => rx_h_push (rx_n 400) 3)), none, none, some (.inl (fun _ => rx_q_newa 14 1756 0)), none, some (.inl (fun _ => rx_q_put (7, 12, 3, true, false) true)), none, none, some (.inr (.inl (rx_q_retv 14 1756)))]
noncomputable def rxE5 : List (List (Option rx_Ent)) := [rxE5_0, rxE5_1, rxE5_2, rxE5_3, rxE5_4, rxE5_5]
noncomputable def rxE6_0 : List (Option rx_Ent) := [some (.inl (fun _ => rx_q_loadA 0 1)), some (.inl (fun _ => rx_x_init)), none, none, some (.inl (fun _ => rx_q_loadA 0 1)), some (.inl (fun _ => rx_h_push (rx_n 36) 2)), none, some (.inl (fun _ => rx_q_newa 4 144 0)), none, some (.inl (fun _ => rx_q_put (8, 0, 3, true, false) true)), none, none, some (.inl (fun _ => rx_q_loadA 0 1)), some (.inl (fun _ => rx_h_push (rx_n 36) 2)), none, some (.inl (fun _ => rx_q_newa 4 144 0))]
noncomputable def rxE6_1 : List (Option rx_Ent) := [none, some (.inl (fun _ => rx_q_put (8, 1, 3, true, false) true)), none, none, some (.inl (fun _ => rx_q_loadA 0 1)), some (.inl (fun _ => rx_h_push (rx_n 36) 2)), none, some (.inl (fun _ => rx_q_newa 4 144 0)), none, some (.inl (fun _ => rx_q_put (8, 2, 3, true, false) true)), none, none, some (.inl (fun _ => rx_q_loadA 0 1)), some (.inl (fun _ => rx_h_push (rx_n 36) 2)), none, some (.inl (fun _ => rx_q_newa 4 144 0))]
noncomputable def rxE6_2 : List (Option rx_Ent) := [none, some (.inl (fun _ => rx_q_put (8, 3, 3, true, false) true)), none, none, some (.inl (fun _ => rx_q_loadA 0 1)), some (.inl (fun _ => rx_h_push (.inr (1, (0, 0))) 1)), some (.inl (fun _ => rx_q_put (8, 4, 2, false, false) true)), none, none, some (.inl (fun _ => rx_q_loadA 0 1)), some (.inl (fun _ => rx_h_push (rx_n 0) 1)), some (.inl (fun _ => rx_q_put (8, 5, 0, false, false) true)), none, none, some (.inl (fun _ => rx_q_loadA 0 1)), some (.inl (fun _ => rx_h_push (rx_n (-1)) 1))]
noncomputable def rxE6_3 : List (Option rx_Ent) := [some (.inl (fun _ => rx_q_put (8, 6, 0, false, false) true)), none, none, some (.inr (.inl (rx_q_retv 4 144)))]
noncomputable def rxE6 : List (List (Option rx_Ent)) := [rxE6_0, rxE6_1, rxE6_2, rxE6_3]
noncomputable def rxE7_0 : List (Option rx_Ent) := [some (.inl (fun _ => rx_q_loadA 0 1)), some (.inl (fun _ => rx_x_init)), none, none, some (.inl (fun _ => rx_q_loadA 0 1)), some (.inl (fun _ => rx_q_new (9, [3, 3]) 7 580)), none, none, some (.inl (fun _ => rx_h_dup)), some (.inr (.inr (1, rxM1, rx_q_vcall rxM7 rxM1 0 9))), none, none, some (.inl (fun _ => rx_q_put (3, 0, 3, true, false) true)), none, none, some (.inl (fun _ => rx_q_loadA 0 1))]
noncomputable def rxE7_1 : List (Option rx_Ent) := [some (.inl (fun _ => rx_q_new (9, [3, 3]) 7 580)), none, none, some (.inl (fun _ => rx_h_dup)), some (.inr (.inr (1, rxM1, rx_q_vcall rxM7 rxM1 0 9))), none, none, some (.inl (fun _ => rx_q_put (3, 1, 3, true, false) true)), none, none, some (.inl (fun _ => rx_q_loadA 0 1)), some (.inl (fun _ => rx_h_push (rx_n 0) 1)), some (.inl (fun _ => rx_q_put (3, 2, 1, false, false) true)), none, none, some (.inl (fun _ => rx_q_loadA 0 1))]
noncomputable def rxE7_2 : List (Option rx_Ent) := [some (.inl (fun _ => rx_h_push (rx_n 0) 1)), some (.inl (fun _ => rx_q_put (3, 3, 0, false, false) true)), none, none, some (.inl (fun _ => rx_q_loadA 0 1)), some (.inl (fun _ => rx_h_push (rx_n 0) 1)), some (.inl (fun _ => rx_q_put (3, 4, 0, false, false) true)), none, none, some (.inl (fun _ => rx_q_loadA 0 1)), some (.inl (fun _ => rx_h_push (rx_n 1) 1)), some (.inl (fun _ => rx_q_put (3, 5, 1, false, false) true)), none, none, some (.inl (fun _ => rx_q_loadA 0 1)), some (.inl (fun _ => rx_h_push (rx_n 0) 1))]
noncomputable def rxE7_3 : List (Option rx_Ent) := [some (.inl (fun _ => rx_q_put (3, 6, 0, false, false) true)), none, none, some (.inl (fun _ => rx_q_loadA 0 1)), some (.inl (fun _ => rx_h_push (rx_n 432) 3)), none, none, some (.inl (fun _ => rx_q_newa 7 580 0)), none, some (.inl (fun _ => rx_q_put (3, 7, 3, true, false) true)), none, none, some (.inl (fun _ => rx_q_loadA 0 1)), some (.inl (fun _ => rx_h_push (rx_n 0) 1)), some (.inl (fun _ => rx_q_put (3, 8, 0, false, false) true))]
noncomputable def rxE7_4 : List (Option rx_Ent) := [none, some (.inl (fun _ => rx_q_loadA 0 1)), some (.inl (fun _ => rx_h_push (rx_n (-1)) 1)), some (.inl (fun _ => rx_q_put (3, 9, 0, false, false) true)), none, none, some (.inl (fun _ => rx_q_loadA 0 1)), some (.inl (fun _ => rx_h_push (rx_n (-1)) 1)), some (.inl (fun _ => rx_q_put (3, 10, 0, false, false) true)), none, none, some (.inl (fun _ => rx_q_loadA 0 1)), some (.inl (fun _ => rx_h_push (rx_n (-1)) 1)), some (.inl (fun _ => rx_q_put (3, 11, 0, false, false) true))]
noncomputable def rxE7_5 : List (Option rx_Ent) := [some (.inl (fun _ => rx_q_loadA 0 1)), some (.inl (fun _ => rx_h_push (rx_n 0) 1)), some (.inl (fun _ => rx_q_put (3, 12, 0, false, false) true)), none, none, some (.inl (fun _ => rx_q_loadA 0 1)), some (.inl (fun _ => rx_h_push (rx_n (-1)) 1)), some (.inl (fun _ => rx_q_put (3, 13, 0, false, false) true)), none, none, some (.inl (fun _ => rx_q_loadA 0 1)), some (.inl (fun _ => rx_h_push (rx_n (-1)) 1)), some (.inl (fun _ => rx_q_put (3, 14, 0, false, false) true)), none, none, some (.inr (.inl (rx_q_retv 7 580)))]
noncomputable def rxE7 : List (List (Option rx_Ent)) := [rxE7_0, rxE7_1, rxE7_2, rxE7_3, rxE7_4, rxE7_5]
noncomputable def rxE8_0 : List (Option rx_Ent) := [some (.inl (fun _ => rx_q_loadA 0 1)), some (.inl (fun _ => rx_x_init)), none, none, some (.inl (fun _ => rx_q_loadA 0 1)), some (.inl (fun _ => rx_h_push (rx_n 0) 1)), some (.inl (fun _ => rx_q_put (4, 0, 0, false, false) true)), none, none, some (.inl (fun _ => rx_q_loadA 0 1)), some (.inl (fun _ => rx_h_push (rx_n 12) 2)), none, some (.inl (fun _ => rx_q_newa 7 88 0)), none, some (.inl (fun _ => rx_q_put (4, 1, 3, true, false) true))]
noncomputable def rxE8_1 : List (Option rx_Ent) := [none, some (.inl (fun _ => rx_q_loadA 0 1)), some (.inl (fun _ => rx_h_push (rx_n 12) 2)), none, some (.inl (fun _ => rx_q_newa 7 88 0)), none, some (.inl (fun _ => rx_q_put (4, 2, 3, true, false) true)), none, none, some (.inl (fun _ => rx_q_loadA 0 1)), some (.inl (fun _ => rx_h_push (rx_n 12) 2)), none, some (.inl (fun _ => rx_q_newa 7 88 0)), none, some (.inl (fun _ => rx_q_put (4, 3, 3, true, false) true))]
noncomputable def rxE8_2 : List (Option rx_Ent) := [none, some (.inl (fun _ => rx_q_loadA 0 1)), some (.inl (fun _ => rx_h_push (rx_n 4) 1)), some (.inl (fun _ => rx_q_newa 7 88 0)), none, some (.inl (fun _ => rx_q_put (4, 4, 3, true, false) true)), none, none, some (.inl (fun _ => rx_q_loadA 0 1)), some (.inl (fun _ => rx_h_push (rx_n 0) 1)), some (.inl (fun _ => rx_q_put (4, 5, 0, false, false) true)), none, none, some (.inl (fun _ => rx_q_loadA 0 1)), some (.inl (fun _ => rx_h_push (rx_n (-1)) 1)), some (.inl (fun _ => rx_q_put (4, 6, 0, false, false) true))]
noncomputable def rxE8_3 : List (Option rx_Ent) := [none, none, some (.inl (fun _ => rx_q_loadA 0 1)), some (.inl (fun _ => rx_h_push (rx_n (-1)) 1)), some (.inl (fun _ => rx_q_put (4, 7, 0, false, false) true)), none, none, some (.inl (fun _ => rx_q_loadA 0 1)), some (.inl (fun _ => rx_h_push (rx_n 0) 1)), some (.inl (fun _ => rx_q_put (4, 8, 1, false, false) true)), none, none, some (.inl (fun _ => rx_q_loadA 0 1)), some (.inl (fun _ => rx_h_push (rx_n 0) 1)), some (.inl (fun _ => rx_q_put (4, 9, 0, false, false) true))]
noncomputable def rxE8_4 : List (Option rx_Ent) := [none, some (.inl (fun _ => rx_q_loadA 0 1)), some (.inl (fun _ => rx_h_push (rx_n 0) 1)), some (.inl (fun _ => rx_q_put (4, 10, 0, false, false) true)), none, none, some (.inl (fun _ => rx_q_loadA 0 1)), some (.inl (fun _ => rx_h_push (rx_n 12) 2)), none, some (.inl (fun _ => rx_q_newa 7 88 0)), none, some (.inl (fun _ => rx_q_put (4, 11, 3, true, false) true)), none, none, some (.inl (fun _ => rx_q_loadA 0 1)), some (.inl (fun _ => rx_h_push (rx_n 18) 2))]
noncomputable def rxE8_5 : List (Option rx_Ent) := [none, some (.inl (fun _ => rx_q_newa 7 88 0)), none, some (.inl (fun _ => rx_q_put (4, 12, 3, true, false) true)), none, none, some (.inl (fun _ => rx_q_loadA 0 1)), some (.inl (fun _ => rx_h_push (rx_n 18) 2)), none, some (.inl (fun _ => rx_q_newa 7 88 0)), none, some (.inl (fun _ => rx_q_put (4, 13, 3, true, false) true)), none, none, some (.inr (.inl (rx_q_retv 7 88)))]
noncomputable def rxE8 : List (List (Option rx_Ent)) := [rxE8_0, rxE8_1, rxE8_2, rxE8_3, rxE8_4, rxE8_5]
noncomputable def rxE9_0 : List (Option rx_Ent) := [some (.inl (fun _ => rx_q_loadA 0 1)), some (.inl (fun _ => rx_x_init)), none, none, some (.inl (fun _ => rx_q_loadA 0 1)), some (.inl (fun _ => rx_q_new (5, [0, 3, 3, 3]) 8 116)), none, none, some (.inl (fun _ => rx_h_dup)), some (.inr (.inr (0, rxM0, rx_q_vcall rxM9 rxM0 0 5))), none, none, some (.inl (fun _ => rx_q_put (1, 0, 3, false, false) true)), none, none, some (.inl (fun _ => rx_q_loadA 0 1))]
noncomputable def rxE9_1 : List (Option rx_Ent) := [some (.inl (fun _ => rx_h_push (rx_n 64) 2)), none, some (.inl (fun _ => rx_q_newa 8 116 1)), none, some (.inl (fun _ => rx_q_put (1, 1, 3, true, false) true)), none, none, some (.inl (fun _ => rx_q_loadA 0 1)), some (.inl (fun _ => rx_h_push (rx_n 8) 2)), none, some (.inl (fun _ => rx_q_newa 8 116 0)), none, some (.inl (fun _ => rx_q_put (1, 2, 3, true, false) true)), none, none, some (.inl (fun _ => rx_q_loadA 0 1))]
noncomputable def rxE9_2 : List (Option rx_Ent) := [some (.inl (fun _ => rx_h_push (rx_n 8) 2)), none, some (.inl (fun _ => rx_q_newa 8 116 0)), none, some (.inl (fun _ => rx_q_put (1, 3, 3, true, false) true)), none, none, some (.inl (fun _ => rx_q_loadA 0 1)), some (.inl (fun _ => rx_h_push (rx_n 8) 2)), none, some (.inl (fun _ => rx_q_newa 8 116 0)), none, some (.inl (fun _ => rx_q_put (1, 4, 3, true, false) true)), none, none, some (.inl (fun _ => rx_q_loadA 0 1))]
noncomputable def rxE9_3 : List (Option rx_Ent) := [some (.inl (fun _ => rx_h_push (rx_n 0) 1)), some (.inl (fun _ => rx_q_put (1, 5, 0, false, false) true)), none, none, some (.inl (fun _ => rx_q_loadA 0 1)), some (.inl (fun _ => rx_h_push (rx_n 0) 1)), some (.inl (fun _ => rx_q_put (1, 6, 0, false, false) true)), none, none, some (.inl (fun _ => rx_q_loadA 0 1)), some (.inl (fun _ => rx_h_push (rx_n (-1)) 1)), some (.inl (fun _ => rx_q_put (1, 7, 0, false, false) true)), none, none, some (.inl (fun _ => rx_q_loadA 0 1)), some (.inl (fun _ => rx_h_push (rx_n 0) 1))]
noncomputable def rxE9_4 : List (Option rx_Ent) := [some (.inl (fun _ => rx_q_put (1, 8, 0, false, false) true)), none, none, some (.inr (.inl (rx_q_retv 8 116)))]
noncomputable def rxE9 : List (List (Option rx_Ent)) := [rxE9_0, rxE9_1, rxE9_2, rxE9_3, rxE9_4]
noncomputable def rxE10_0 : List (Option rx_Ent) := [some (.inl (fun _ => rx_q_loadA 0 1)), some (.inl (fun _ => rx_x_init)), none, none, some (.inl (fun _ => rx_q_loadA 0 1)), some (.inl (fun _ => rx_h_push (rx_n 0) 1)), some (.inl (fun _ => rx_q_put (0, 0, 0, false, false) true)), none, none, some (.inl (fun _ => rx_q_loadA 0 1)), some (.inl (fun _ => rx_h_push (rx_n 0) 1)), some (.inl (fun _ => rx_q_put (0, 1, 0, false, false) true)), none, none, some (.inl (fun _ => rx_q_loadA 0 1)), some (.inl (fun _ => rx_h_push (rx_n 8) 2))]
noncomputable def rxE10_1 : List (Option rx_Ent) := [none, some (.inl (fun _ => rx_q_newa 6 540 0)), none, some (.inl (fun _ => rx_q_put (0, 2, 3, true, false) true)), none, none, some (.inl (fun _ => rx_q_loadA 0 1)), some (.inl (fun _ => rx_h_push (rx_n 6) 2)), none, some (.inl (fun _ => rx_q_newa 6 540 0)), none, some (.inl (fun _ => rx_q_put (0, 3, 3, true, false) true)), none, none, some (.inl (fun _ => rx_q_loadA 0 1)), some (.inl (fun _ => rx_h_push (rx_n 64) 2))]
noncomputable def rxE10_2 : List (Option rx_Ent) := [none, some (.inl (fun _ => rx_q_newa 6 540 1)), none, some (.inl (fun _ => rx_q_put (0, 4, 3, true, false) true)), none, none, some (.inl (fun _ => rx_q_loadA 0 1)), some (.inl (fun _ => rx_h_push (rx_n 448) 3)), none, none, some (.inl (fun _ => rx_q_newa 6 540 0)), none, some (.inl (fun _ => rx_q_put (0, 5, 3, true, false) true)), none, none, some (.inl (fun _ => rx_q_loadA 0 1))]
noncomputable def rxE10_3 : List (Option rx_Ent) := [some (.inl (fun _ => rx_h_push (rx_n 8) 2)), none, some (.inl (fun _ => rx_q_newa 6 540 0)), none, some (.inl (fun _ => rx_q_put (0, 6, 3, true, false) true)), none, none, some (.inl (fun _ => rx_q_loadA 0 1)), some (.inl (fun _ => rx_h_push (rx_n 6) 2)), none, some (.inl (fun _ => rx_q_newa 6 540 0)), none, some (.inl (fun _ => rx_q_put (0, 7, 3, true, false) true)), none, none, some (.inl (fun _ => rx_q_loadA 0 1))]
noncomputable def rxE10_4 : List (Option rx_Ent) := [some (.inl (fun _ => rx_h_push (rx_n (-1)) 1)), some (.inl (fun _ => rx_q_put (0, 8, 0, false, false) true)), none, none, some (.inl (fun _ => rx_q_loadA 0 1)), some (.inl (fun _ => rx_h_push (rx_n 0) 1)), some (.inl (fun _ => rx_q_put (0, 9, 0, false, false) true)), none, none, some (.inr (.inl (rx_q_retv 6 540)))]
noncomputable def rxE10 : List (List (Option rx_Ent)) := [rxE10_0, rxE10_1, rxE10_2, rxE10_3, rxE10_4]
noncomputable def rxE11_0 : List (Option rx_Ent) := [some (.inl (fun _ => rx_q_loadA 0 1)), some (.inl (fun _ => rx_x_init)), none, none, some (.inl (fun _ => rx_q_loadA 0 1)), some (.inl (fun _ => rx_h_push (rx_n 7) 2)), none, some (.inl (fun _ => rx_q_newa 41 22483 0)), none, some (.inl (fun _ => rx_q_put (12, 2, 3, true, false) true)), none, none, some (.inl (fun _ => rx_q_loadA 0 1)), some (.inl (fun _ => rx_h_push (rx_n 6180) 3))]
noncomputable def rxE11_1 : List (Option rx_Ent) := [some (.inl (fun _ => rx_q_newa 41 22483 0)), none, some (.inl (fun _ => rx_q_put (12, 3, 3, true, false) true)), none, none, some (.inl (fun _ => rx_q_loadA 0 1)), some (.inl (fun _ => rx_h_push (rx_n 12360) 3)), none, none, some (.inl (fun _ => rx_q_newa 41 22483 0)), none, some (.inl (fun _ => rx_q_put (12, 4, 3, true, false) true)), none, none, some (.inl (fun _ => rx_q_loadA 0 1)), some (.inl (fun _ => rx_h_push (rx_n 2) 1))]
noncomputable def rxE11_2 : List (Option rx_Ent) := [some (.inl (fun _ => rx_q_newa 41 22483 1)), none, some (.inl (fun _ => rx_q_put (12, 5, 3, true, false) true)), none, none, some (.inl (fun _ => rx_q_loadA 0 1)), some (.inl (fun _ => rx_h_push (rx_n 400) 3)), none, none, some (.inl (fun _ => rx_q_newa 41 22483 0)), none, some (.inl (fun _ => rx_q_put (12, 7, 3, true, false) true)), none, none, some (.inl (fun _ => rx_q_loadA 0 1)), some (.inl (fun _ => rx_h_push (rx_n (-1)) 1))]
noncomputable def rxE11_3 : List (Option rx_Ent) := [some (.inl (fun _ => rx_q_put (12, 13, 0, false, false) true)), none, none, some (.inl (fun _ => rx_q_loadA 0 1)), some (.inl (fun _ => rx_h_push (rx_n 96) 2)), none, some (.inl (fun _ => rx_q_newa 41 22483 0)), none, some (.inl (fun _ => rx_q_put (12, 17, 3, true, false) true)), none, none, some (.inl (fun _ => rx_q_loadA 0 1)), some (.inl (fun _ => rx_h_push (rx_n 400) 3)), none, none, some (.inl (fun _ => rx_q_newa 41 22483 0))]
noncomputable def rxE11_4 : List (Option rx_Ent) := [none, some (.inl (fun _ => rx_q_put (12, 19, 3, true, false) true)), none, none, some (.inl (fun _ => rx_q_loadA 0 1)), some (.inl (fun _ => rx_h_push (rx_n 400) 3)), none, none, some (.inl (fun _ => rx_q_newa 41 22483 0)), none, some (.inl (fun _ => rx_q_put (12, 20, 3, true, false) true)), none, none, some (.inl (fun _ => rx_q_loadA 0 1)), some (.inl (fun _ => rx_h_push (rx_n 400) 3))]
noncomputable def rxE11_5 : List (Option rx_Ent) := [none, some (.inl (fun _ => rx_q_newa 41 22483 0)), none, some (.inl (fun _ => rx_q_put (12, 22, 3, true, false) true)), none, none, some (.inl (fun _ => rx_q_loadA 0 1)), some (.inl (fun _ => rx_h_push (rx_n 400) 3)), none, none, some (.inl (fun _ => rx_q_newa 41 22483 0)), none, some (.inl (fun _ => rx_q_put (12, 23, 3, true, false) true)), none, none, some (.inl (fun _ => rx_q_loadA 0 1))]
noncomputable def rxE11_6 : List (Option rx_Ent) := [some (.inl (fun _ => rx_h_push (rx_n 8) 2)), none, some (.inl (fun _ => rx_q_newa 41 22483 2)), none, some (.inl (fun _ => rx_h_dup)), some (.inl (fun _ => rx_h_push (rx_n 0) 1)), some (.inl (fun _ => rx_h_push (.inr (1, (0, 542723566))) 3)), none, none, some (.inl (fun _ => rx_q_ast (rx_isTc 2) (fun I _ _ v => rx_fit I 2 v))), some (.inl (fun _ => rx_h_dup)), some (.inl (fun _ => rx_h_push (rx_n 1) 1)), some (.inl (fun _ => rx_h_push (.inr (1, (0, 441892441))) 3)), none, none, some (.inl (fun _ => rx_q_ast (rx_isTc 2) (fun I _ _ v => rx_fit I 2 v)))]
noncomputable def rxE11_7 : List (Option rx_Ent) := [some (.inl (fun _ => rx_h_dup)), some (.inl (fun _ => rx_h_push (rx_n 2) 1)), some (.inl (fun _ => rx_h_push (.inr (1, (0, 81486))) 3)), none, none, some (.inl (fun _ => rx_q_ast (rx_isTc 2) (fun I _ _ v => rx_fit I 2 v))), some (.inl (fun _ => rx_h_dup)), some (.inl (fun _ => rx_h_push (rx_n 3) 1)), some (.inl (fun _ => rx_h_push (.inr (1, (0, 136228))) 3)), none, none, some (.inl (fun _ => rx_q_ast (rx_isTc 2) (fun I _ _ v => rx_fit I 2 v))), some (.inl (fun _ => rx_h_dup)), some (.inl (fun _ => rx_h_push (rx_n 4) 1)), some (.inl (fun _ => rx_h_push (.inr (1, (0, 525908))) 3))]
noncomputable def rxE11_8 : List (Option rx_Ent) := [none, some (.inl (fun _ => rx_q_ast (rx_isTc 2) (fun I _ _ v => rx_fit I 2 v))), some (.inl (fun _ => rx_h_dup)), some (.inl (fun _ => rx_h_push (rx_n 5) 1)), some (.inl (fun _ => rx_h_push (.inr (1, (0, 21643763890))) 3)), none, none, some (.inl (fun _ => rx_q_ast (rx_isTc 2) (fun I _ _ v => rx_fit I 2 v))), some (.inl (fun _ => rx_h_dup)), some (.inl (fun _ => rx_h_push (rx_n 6) 2)), none, some (.inl (fun _ => rx_h_push (.inr (1, (0, 824370))) 3)), none, none, some (.inl (fun _ => rx_q_ast (rx_isTc 2) (fun I _ _ v => rx_fit I 2 v))), some (.inl (fun _ => rx_h_dup))]
noncomputable def rxE11_9 : List (Option rx_Ent) := [some (.inl (fun _ => rx_h_push (rx_n 7) 2)), none, some (.inl (fun _ => rx_h_push (.inr (1, (0, 441828))) 3)), none, none, some (.inl (fun _ => rx_q_ast (rx_isTc 2) (fun I _ _ v => rx_fit I 2 v))), some (.inl (fun _ => rx_q_put (12, 26, 3, true, false) true)), none, none, some (.inl (fun _ => rx_q_loadA 0 1)), some (.inl (fun _ => rx_h_push (rx_n 6) 2)), none, some (.inl (fun _ => rx_q_newa 41 22483 2)), none, some (.inl (fun _ => rx_h_dup)), some (.inl (fun _ => rx_h_push (rx_n 0) 1))]
noncomputable def rxE11_10 : List (Option rx_Ent) := [some (.inl (fun _ => rx_h_push (.inr (1, (0, 20579973))) 3)), none, none, some (.inl (fun _ => rx_q_ast (rx_isTc 2) (fun I _ _ v => rx_fit I 2 v))), some (.inl (fun _ => rx_h_dup)), some (.inl (fun _ => rx_h_push (rx_n 1) 1)), some (.inl (fun _ => rx_h_push (.inr (1, (0, 3749))) 3)), none, none, some (.inl (fun _ => rx_q_ast (rx_isTc 2) (fun I _ _ v => rx_fit I 2 v))), some (.inl (fun _ => rx_h_dup)), some (.inl (fun _ => rx_h_push (rx_n 2) 1)), some (.inl (fun _ => rx_h_push (.inr (1, (0, 769604))) 3)), none, none, some (.inl (fun _ => rx_q_ast (rx_isTc 2) (fun I _ _ v => rx_fit I 2 v)))]
noncomputable def rxE11_11 : List (Option rx_Ent) := [some (.inl (fun _ => rx_h_dup)), some (.inl (fun _ => rx_h_push (rx_n 3) 1)), some (.inl (fun _ => rx_h_push (.inr (1, (0, 464660))) 3)), none, none, some (.inl (fun _ => rx_q_ast (rx_isTc 2) (fun I _ _ v => rx_fit I 2 v))), some (.inl (fun _ => rx_h_dup)), some (.inl (fun _ => rx_h_push (rx_n 4) 1)), some (.inl (fun _ => rx_h_push (.inr (1, (0, 525908))) 3)), none, none, some (.inl (fun _ => rx_q_ast (rx_isTc 2) (fun I _ _ v => rx_fit I 2 v))), some (.inl (fun _ => rx_h_dup)), some (.inl (fun _ => rx_h_push (rx_n 5) 1)), some (.inl (fun _ => rx_h_push (.inr (1, (0, 441828))) 3))]
noncomputable def rxE11_12 : List (Option rx_Ent) := [none, some (.inl (fun _ => rx_q_ast (rx_isTc 2) (fun I _ _ v => rx_fit I 2 v))), some (.inl (fun _ => rx_q_put (12, 27, 3, true, false) true)), none, none, some (.inl (fun _ => rx_q_loadA 0 1)), some (.inl (fun _ => rx_h_push (rx_n 13) 2)), none, some (.inl (fun _ => rx_q_newa 41 22483 2)), none, some (.inl (fun _ => rx_q_put (12, 29, 3, true, false) true)), none, none, some (.inl (fun _ => rx_q_loadA 0 1)), some (.inl (fun _ => rx_h_push (rx_n 13) 2))]
noncomputable def rxE11_13 : List (Option rx_Ent) := [some (.inl (fun _ => rx_q_newa 41 22483 2)), none, some (.inl (fun _ => rx_q_put (12, 30, 3, true, false) true)), none, none, some (.inl (fun _ => rx_q_loadA 0 1)), some (.inl (fun _ => rx_h_push (rx_n 400) 3)), none, none, some (.inl (fun _ => rx_q_newa 41 22483 2)), none, some (.inl (fun _ => rx_q_put (12, 31, 3, true, false) true)), none, none, some (.inl (fun _ => rx_q_loadA 0 1)), some (.inl (fun _ => rx_h_push (rx_n 120) 2))]
noncomputable def rxE11_14 : List (Option rx_Ent) := [none, some (.inl (fun _ => rx_q_newa 41 22483 0)), none, some (.inl (fun _ => rx_q_put (12, 35, 3, true, false) true)), none, none, some (.inl (fun _ => rx_q_loadA 0 1)), some (.inl (fun _ => rx_h_push (rx_n 12) 2)), none, some (.inl (fun _ => rx_q_newa 41 22483 0)), none, some (.inl (fun _ => rx_q_put (12, 36, 3, true, false) true)), none, none, some (.inl (fun _ => rx_q_loadA 0 1)), some (.inl (fun _ => rx_h_push (rx_n 36) 2))]
noncomputable def rxE11_15 : List (Option rx_Ent) := [none, some (.inl (fun _ => rx_q_newa 41 22483 0)), none, some (.inl (fun _ => rx_q_put (12, 38, 3, true, false) true)), none, none, some (.inl (fun _ => rx_q_loadA 0 1)), some (.inl (fun _ => rx_h_push (rx_n 36) 2)), none, some (.inl (fun _ => rx_q_newa 41 22483 0)), none, some (.inl (fun _ => rx_q_put (12, 39, 3, true, false) true)), none, none, some (.inl (fun _ => rx_q_loadA 0 1)), some (.inl (fun _ => rx_h_push (rx_n 36) 2))]
noncomputable def rxE11_16 : List (Option rx_Ent) := [none, some (.inl (fun _ => rx_q_newa 41 22483 0)), none, some (.inl (fun _ => rx_q_put (12, 40, 3, true, false) true)), none, none, some (.inl (fun _ => rx_q_loadA 0 1)), some (.inl (fun _ => rx_h_push (rx_n 40) 2)), none, some (.inl (fun _ => rx_q_newa 41 22483 0)), none, some (.inl (fun _ => rx_q_put (12, 41, 3, true, false) true)), none, none, some (.inl (fun _ => rx_q_loadA 0 1)), some (.inl (fun _ => rx_h_push (rx_n 432) 3))]
noncomputable def rxE11_17 : List (Option rx_Ent) := [none, none, some (.inl (fun _ => rx_q_newa 41 22483 0)), none, some (.inl (fun _ => rx_q_put (12, 43, 3, true, false) true)), none, none, some (.inl (fun _ => rx_q_loadA 0 1)), some (.inl (fun _ => rx_h_push (rx_n 434) 3)), none, none, some (.inl (fun _ => rx_q_newa 41 22483 0)), none, some (.inl (fun _ => rx_q_put (12, 44, 3, true, false) true))]
noncomputable def rxE11_18 : List (Option rx_Ent) := [some (.inl (fun _ => rx_q_loadA 0 1)), some (.inl (fun _ => rx_h_push (rx_n 10) 2)), none, some (.inl (fun _ => rx_q_newa 41 22483 0)), none, some (.inl (fun _ => rx_q_put (12, 50, 3, true, false) true)), none, none, some (.inl (fun _ => rx_q_loadA 0 1)), some (.inl (fun _ => rx_h_push (rx_n 8) 2)), none, some (.inl (fun _ => rx_q_newa 41 22483 0)), none, some (.inl (fun _ => rx_q_put (12, 51, 3, true, false) true))]
noncomputable def rxE11_19 : List (Option rx_Ent) := [some (.inl (fun _ => rx_q_loadA 0 1)), some (.inl (fun _ => rx_h_push (rx_n 8) 2)), none, some (.inl (fun _ => rx_q_newa 41 22483 0)), none, some (.inl (fun _ => rx_q_put (12, 52, 3, true, false) true)), none, none, some (.inl (fun _ => rx_q_loadA 0 1)), some (.inl (fun _ => rx_h_push (rx_n 8) 2)), none, some (.inl (fun _ => rx_q_newa 41 22483 0)), none, some (.inl (fun _ => rx_q_put (12, 53, 3, true, false) true))]
noncomputable def rxE11_20 : List (Option rx_Ent) := [some (.inl (fun _ => rx_q_loadA 0 1)), some (.inl (fun _ => rx_h_push (rx_n 6) 2)), none, some (.inl (fun _ => rx_q_newa 41 22483 0)), none, some (.inl (fun _ => rx_q_put (12, 55, 3, true, false) true)), none, none, some (.inl (fun _ => rx_q_loadA 0 1)), some (.inl (fun _ => rx_h_push (rx_n 6) 2)), none, some (.inl (fun _ => rx_q_newa 41 22483 0)), none, some (.inl (fun _ => rx_q_put (12, 56, 3, true, false) true))]
noncomputable def rxE11_21 : List (Option rx_Ent) := [some (.inl (fun _ => rx_q_loadA 0 1)), some (.inl (fun _ => rx_h_push (rx_n 48) 2)), none, some (.inl (fun _ => rx_q_newa 41 22483 1)), none, some (.inl (fun _ => rx_q_put (12, 57, 3, true, false) true)), none, none, some (.inl (fun _ => rx_q_loadA 0 1)), some (.inl (fun _ => rx_h_push (rx_n 4) 1)), some (.inl (fun _ => rx_q_newa 41 22483 0)), none, some (.inl (fun _ => rx_q_put (12, 60, 3, true, false) true)), none, none, some (.inl (fun _ => rx_q_loadA 0 1))]
noncomputable def rxE11_22 : List (Option rx_Ent) := [some (.inl (fun _ => rx_h_push (rx_n 12) 2)), none, some (.inl (fun _ => rx_q_newa 41 22483 0)), none, some (.inl (fun _ => rx_q_put (12, 61, 3, true, false) true)), none, none, some (.inl (fun _ => rx_q_loadA 0 1)), some (.inl (fun _ => rx_h_push (rx_n 13) 2)), none, some (.inl (fun _ => rx_q_newa 41 22483 0)), none, some (.inl (fun _ => rx_q_put (12, 62, 3, true, false) true)), none, none, some (.inl (fun _ => rx_q_loadA 0 1))]
noncomputable def rxE11_23 : List (Option rx_Ent) := [some (.inl (fun _ => rx_h_push (rx_n 18) 2)), none, some (.inl (fun _ => rx_q_newa 41 22483 0)), none, some (.inl (fun _ => rx_q_put (12, 63, 3, true, false) true)), none, none, some (.inl (fun _ => rx_q_loadA 0 1)), some (.inl (fun _ => rx_h_push (rx_n 18) 2)), none, some (.inl (fun _ => rx_q_newa 41 22483 0)), none, some (.inl (fun _ => rx_q_put (12, 64, 3, true, false) true)), none, none, some (.inl (fun _ => rx_q_loadA 0 1))]
noncomputable def rxE11_24 : List (Option rx_Ent) := [some (.inl (fun _ => rx_h_push (rx_n 12) 2)), none, some (.inl (fun _ => rx_q_newa 41 22483 1)), none, some (.inl (fun _ => rx_q_put (12, 65, 3, true, false) true)), none, none, some (.inl (fun _ => rx_q_loadA 0 1)), some (.inl (fun _ => rx_h_push (rx_n 12) 2)), none, some (.inl (fun _ => rx_q_newa 41 22483 1)), none, some (.inl (fun _ => rx_q_put (12, 66, 3, true, false) true)), none, none, some (.inl (fun _ => rx_q_loadA 0 1))]
noncomputable def rxE11_25 : List (Option rx_Ent) := [some (.inl (fun _ => rx_h_push (rx_n 13) 2)), none, some (.inl (fun _ => rx_q_newa 41 22483 0)), none, some (.inl (fun _ => rx_q_put (12, 67, 3, true, false) true)), none, none, some (.inl (fun _ => rx_q_loadA 0 1)), some (.inl (fun _ => rx_h_push (rx_n 12) 2)), none, some (.inl (fun _ => rx_q_newa 41 22483 0)), none, some (.inl (fun _ => rx_q_put (12, 68, 3, true, false) true)), none, none, some (.inl (fun _ => rx_q_loadA 0 1))]
noncomputable def rxE11_26 : List (Option rx_Ent) := [some (.inl (fun _ => rx_h_push (rx_n 36) 2)), none, some (.inl (fun _ => rx_q_newa 41 22483 0)), none, some (.inl (fun _ => rx_q_put (12, 72, 3, true, false) true)), none, none, some (.inl (fun _ => rx_q_loadA 0 1)), some (.inl (fun _ => rx_h_push (rx_n 8) 2)), none, some (.inl (fun _ => rx_q_newa 41 22483 0)), none, some (.inl (fun _ => rx_q_put (12, 73, 3, true, false) true)), none, none, some (.inl (fun _ => rx_q_loadA 0 1))]
noncomputable def rxE11_27 : List (Option rx_Ent) := [some (.inl (fun _ => rx_q_get (12, 3, 3, true, false))), none, none, some (.inl (fun _ => rx_h_push (rx_n 4) 1)), some (.inl (fun _ => rx_h_push (rx_n (-1)) 1)), some (.inl (fun _ => rx_q_ast (rx_isTc 0) (fun I _ _ v => rx_fit I 0 v))), some (.inl (fun _ => rx_q_loadA 0 1)), some (.inl (fun _ => rx_q_get (12, 3, 3, true, false))), none, none, some (.inl (fun _ => rx_h_push (rx_n 9) 2)), none, some (.inl (fun _ => rx_h_push (rx_n 10) 2)), none, some (.inl (fun _ => rx_q_ast (rx_isTc 0) (fun I _ _ v => rx_fit I 0 v))), some (.inr (.inl (rx_q_retv 41 22483)))]
noncomputable def rxE11 : List (List (Option rx_Ent)) := [rxE11_0, rxE11_1, rxE11_2, rxE11_3, rxE11_4, rxE11_5, rxE11_6, rxE11_7, rxE11_8, rxE11_9, rxE11_10, rxE11_11, rxE11_12, rxE11_13, rxE11_14, rxE11_15, rxE11_16, rxE11_17, rxE11_18, rxE11_19, rxE11_20, rxE11_21, rxE11_22, rxE11_23, rxE11_24, rxE11_25, rxE11_26, rxE11_27]
noncomputable def rxE12_0 : List (Option rx_Ent) := [some (.inl (fun _ => rx_q_loadA 0 1)), some (.inl (fun _ => rx_x_init)), none, none, some (.inl (fun _ => rx_q_loadA 0 1)), some (.inl (fun _ => rx_q_new (10, [0, 3, 3, 3, 3, 0, 3, 3, 3, 3, 0, 3, 3, 3, 0, 0, 3, 3, 3]) 479 26353)), none, none, some (.inl (fun _ => rx_h_dup)), some (.inr (.inr (4, rxM4, rx_q_vcall rxM12 rxM4 0 10))), none, none, some (.inl (fun _ => rx_q_put (11, 0, 3, true, false) true)), none, none, some (.inl (fun _ => rx_q_loadA 0 1))]
noncomputable def rxE12_1 : List (Option rx_Ent) := [some (.inl (fun _ => rx_h_push (rx_n 2) 1)), some (.inl (fun _ => rx_q_newq 10 479 26353)), none, none, some (.inl (fun _ => rx_h_dup)), some (.inl (fun _ => rx_h_push (rx_n 0) 1)), some (.inl (fun _ => rx_q_new (10, [0, 3, 3, 3, 3, 0, 3, 3, 3, 3, 0, 3, 3, 3, 0, 0, 3, 3, 3]) 479 26353)), none, none, some (.inl (fun _ => rx_h_dup)), some (.inr (.inr (4, rxM4, rx_q_vcall rxM12 rxM4 0 10))), none, none, some (.inl (fun _ => rx_q_ast rx_isRef rx_fitA)), some (.inl (fun _ => rx_h_dup)), some (.inl (fun _ => rx_h_push (rx_n 1) 1))]
noncomputable def rxE12_2 : List (Option rx_Ent) := [some (.inl (fun _ => rx_q_new (10, [0, 3, 3, 3, 3, 0, 3, 3, 3, 3, 0, 3, 3, 3, 0, 0, 3, 3, 3]) 479 26353)), none, none, some (.inl (fun _ => rx_h_dup)), some (.inr (.inr (4, rxM4, rx_q_vcall rxM12 rxM4 0 10))), none, none, some (.inl (fun _ => rx_q_ast rx_isRef rx_fitA)), some (.inl (fun _ => rx_q_put (11, 1, 3, true, false) true)), none, none, some (.inl (fun _ => rx_q_loadA 0 1)), some (.inl (fun _ => rx_h_push (rx_n 2) 1)), some (.inl (fun _ => rx_q_newa 479 26353 1)), none, some (.inl (fun _ => rx_q_put (11, 2, 3, true, false) true))]
noncomputable def rxE12_3 : List (Option rx_Ent) := [none, none, some (.inl (fun _ => rx_q_loadA 0 1)), some (.inl (fun _ => rx_h_push (rx_n 400) 3)), none, none, some (.inl (fun _ => rx_q_newa 479 26353 0)), none, some (.inl (fun _ => rx_q_put (11, 3, 3, true, false) true)), none, none, some (.inl (fun _ => rx_q_loadA 0 1)), some (.inl (fun _ => rx_h_push (rx_n 0) 1)), some (.inl (fun _ => rx_q_put (11, 4, 0, false, false) true))]
noncomputable def rxE12_4 : List (Option rx_Ent) := [some (.inl (fun _ => rx_q_loadA 0 1)), some (.inl (fun _ => rx_q_new (7, [3, 0, 0, 0, 0, 1, 3, 0, 0, 3, 0, 3, 3]) 479 26353)), none, none, some (.inl (fun _ => rx_h_dup)), some (.inr (.inr (5, rxM5, rx_q_vcall rxM12 rxM5 0 7))), none, none, some (.inl (fun _ => rx_q_put (11, 5, 3, true, false) true)), none, none, some (.inl (fun _ => rx_q_loadA 0 1)), some (.inl (fun _ => rx_q_new (6, [0, 3, 3, 3, 0, 3, 3, 3, 3, 3, 3]) 479 26353)), none, none, some (.inl (fun _ => rx_h_dup))]
noncomputable def rxE12_5 : List (Option rx_Ent) := [some (.inr (.inr (2, rxM2, rx_q_vcall rxM12 rxM2 0 6))), none, none, some (.inl (fun _ => rx_q_put (11, 6, 3, true, false) true)), none, none, some (.inl (fun _ => rx_q_loadA 0 1)), some (.inl (fun _ => rx_h_push (rx_n 0) 1)), some (.inl (fun _ => rx_q_put (11, 7, 0, false, false) true)), none, none, some (.inl (fun _ => rx_q_loadA 0 1)), some (.inl (fun _ => rx_h_push (rx_n 0) 1)), some (.inl (fun _ => rx_q_put (11, 8, 0, false, false) true))]
noncomputable def rxE12_6 : List (Option rx_Ent) := [some (.inl (fun _ => rx_q_loadA 0 1)), some (.inl (fun _ => rx_h_push (rx_n 5) 1)), some (.inl (fun _ => rx_q_newa 479 26353 0)), none, some (.inl (fun _ => rx_q_put (11, 9, 3, true, false) true)), none, none, some (.inl (fun _ => rx_q_loadA 0 1)), some (.inl (fun _ => rx_q_new (8, [3, 3, 3, 3, 2, 0, 0]) 479 26353)), none, none, some (.inl (fun _ => rx_h_dup)), some (.inr (.inr (6, rxM6, rx_q_vcall rxM12 rxM6 0 8))), none, none, some (.inl (fun _ => rx_q_put (11, 10, 3, true, false) true))]
noncomputable def rxE12_7 : List (Option rx_Ent) := [none, none, some (.inl (fun _ => rx_q_loadA 0 1)), some (.inl (fun _ => rx_q_new (3, [3, 3, 1, 0, 0, 1, 0, 3, 0, 0, 0, 0, 0, 0, 0]) 479 26353)), none, none, some (.inl (fun _ => rx_h_dup)), some (.inr (.inr (7, rxM7, rx_q_vcall rxM12 rxM7 0 3))), none, none, some (.inl (fun _ => rx_q_put (11, 11, 3, true, false) true)), none, none, some (.inl (fun _ => rx_q_loadA 0 1)), some (.inl (fun _ => rx_q_new (4, [0, 3, 3, 3, 3, 0, 0, 0, 1, 0, 0, 3, 3, 3]) 479 26353))]
noncomputable def rxE12_8 : List (Option rx_Ent) := [none, some (.inl (fun _ => rx_h_dup)), some (.inr (.inr (8, rxM8, rx_q_vcall rxM12 rxM8 0 4))), none, none, some (.inl (fun _ => rx_q_put (11, 12, 3, true, false) true)), none, none, some (.inl (fun _ => rx_q_loadA 0 1)), some (.inl (fun _ => rx_q_new (1, [3, 3, 3, 3, 3, 0, 0, 0, 0]) 479 26353)), none, none, some (.inl (fun _ => rx_h_dup)), some (.inr (.inr (9, rxM9, rx_q_vcall rxM12 rxM9 0 1)))]
noncomputable def rxE12_9 : List (Option rx_Ent) := [some (.inl (fun _ => rx_q_put (11, 13, 3, true, false) true)), none, none, some (.inl (fun _ => rx_q_loadA 0 1)), some (.inl (fun _ => rx_q_new (0, [0, 0, 3, 3, 3, 3, 3, 3, 0, 0]) 479 26353)), none, none, some (.inl (fun _ => rx_h_dup)), some (.inr (.inr (10, rxM10, rx_q_vcall rxM12 rxM10 0 0))), none, none, some (.inl (fun _ => rx_q_put (11, 14, 3, true, false) true)), none, none, some (.inl (fun _ => rx_q_loadA 0 1)), some (.inl (fun _ => rx_h_push (rx_n 11) 2))]
noncomputable def rxE12_10 : List (Option rx_Ent) := [none, some (.inl (fun _ => rx_q_newa 479 26353 0)), none, some (.inl (fun _ => rx_q_put (11, 15, 3, true, false) true)), none, none, some (.inl (fun _ => rx_q_loadA 0 1)), some (.inl (fun _ => rx_h_push (rx_n 0) 1)), some (.inl (fun _ => rx_q_put (11, 16, 1, false, false) true)), none, none, some (.inl (fun _ => rx_q_loadA 0 1)), some (.inl (fun _ => rx_q_new (9, [3, 3]) 479 26353)), none, none, some (.inl (fun _ => rx_h_dup))]
noncomputable def rxE12_11 : List (Option rx_Ent) := [some (.inr (.inr (1, rxM1, rx_q_vcall rxM12 rxM1 0 9))), none, none, some (.inl (fun _ => rx_q_put (11, 17, 3, true, false) true)), none, none, some (.inl (fun _ => rx_q_loadA 0 1)), some (.inl (fun _ => rx_h_push (rx_n 8) 2)), none, some (.inl (fun _ => rx_q_newa 479 26353 0)), none, some (.inl (fun _ => rx_q_put (11, 18, 3, true, false) true)), none, none, some (.inl (fun _ => rx_q_loadA 0 1)), some (.inl (fun _ => rx_h_push (rx_n 0) 1))]
noncomputable def rxE12_12 : List (Option rx_Ent) := [some (.inl (fun _ => rx_q_put (11, 19, 0, false, false) true)), none, none, some (.inr (.inl (rx_q_retv 479 26353)))]
noncomputable def rxE12 : List (List (Option rx_Ent)) := [rxE12_0, rxE12_1, rxE12_2, rxE12_3, rxE12_4, rxE12_5, rxE12_6, rxE12_7, rxE12_8, rxE12_9, rxE12_10, rxE12_11, rxE12_12]
noncomputable def rxE13_0 : List (Option rx_Ent) := [some (.inl (fun _ => rx_q_load 0 0 1)), some (.inl (fun _ => rx_q_if .lt 19 4)), none, none, some (.inl (fun _ => rx_q_load 0 0 1)), some (.inl (fun _ => rx_h_push (rx_n 3) 1)), some (.inl (fun _ => rx_q_icmp .ge 19 9)), none, none, some (.inl (fun _ => rx_q_load 0 1 1)), some (.inl (fun _ => rx_q_if .lt 19 13)), none, none, some (.inl (fun _ => rx_q_load 0 1 1)), some (.inl (fun _ => rx_h_push (rx_n 6) 2))]
noncomputable def rxE13_1 : List (Option rx_Ent) := [some (.inl (fun _ => rx_q_icmp .lt 23 19)), none, none, none, none, none, none, some (.inl (fun _ => rx_q_load 0 0 1)), some (.inl (fun _ => rx_h_push (rx_n 6) 2)), none, some (.inl (fun _ => rx_h_bin 2)), some (.inl (fun _ => rx_q_load 0 1 1)), some (.inl (fun _ => rx_h_bin 0)), some (.inr (.inl (rx_q_reti 0 0)))]
noncomputable def rxE13 : List (List (Option rx_Ent)) := [rxE13_0, rxE13_1]
noncomputable def rxE14_0 : List (Option rx_Ent) := [some (.inl (fun _ => rx_q_load 0 0 1)), some (.inl (fun _ => rx_q_if .lt 24 4)), none, none, some (.inl (fun _ => rx_q_load 0 0 1)), some (.inl (fun _ => rx_h_push (rx_n 6) 2)), none, some (.inl (fun _ => rx_q_icmp .ge 24 10)), none, none, some (.inl (fun _ => rx_q_load 0 1 1)), some (.inl (fun _ => rx_q_if .lt 24 14)), none, none, some (.inl (fun _ => rx_q_load 0 1 1)), some (.inl (fun _ => rx_h_push (rx_n 6) 2))]
noncomputable def rxE14_1 : List (Option rx_Ent) := [none, some (.inl (fun _ => rx_q_icmp .ge 24 20)), none, none, some (.inl (fun _ => rx_h_push (rx_n 1) 1)), some (.inl (fun _ => rx_q_goto 25)), none, none, some (.inl (fun _ => rx_h_push (rx_n 0) 1)), some (.inr (.inl (rx_q_retz 0 0)))]
noncomputable def rxE14 : List (List (Option rx_Ent)) := [rxE14_0, rxE14_1]
noncomputable def rxE15_0 : List (Option rx_Ent) := [some (.inl (fun _ => rx_q_load 0 0 1)), some (.inl (fun _ => rx_q_if .le 14 4)), none, none, some (.inl (fun _ => rx_q_load 0 0 1)), some (.inl (fun _ => rx_h_push (rx_n 9) 2)), none, some (.inl (fun _ => rx_q_icmp .gt 14 10)), none, none, some (.inl (fun _ => rx_h_push (rx_n 1) 1)), some (.inl (fun _ => rx_q_goto 15)), none, none, some (.inl (fun _ => rx_h_push (rx_n 0) 1)), some (.inr (.inl (rx_q_retz 0 0)))]
noncomputable def rxE15 : List (List (Option rx_Ent)) := [rxE15_0]
noncomputable def rxE16_0 : List (Option rx_Ent) := [some (.inl (fun _ => rx_q_load 0 0 1)), some (.inl (fun _ => rx_q_if .lt 15 4)), none, none, some (.inl (fun _ => rx_q_load 0 0 1)), some (.inl (fun _ => rx_h_push (rx_n 300) 3)), none, none, some (.inl (fun _ => rx_q_icmp .gt 15 11)), none, none, some (.inl (fun _ => rx_h_push (rx_n 1) 1)), some (.inl (fun _ => rx_q_goto 16)), none, none, some (.inl (fun _ => rx_h_push (rx_n 0) 1))]
noncomputable def rxE16_1 : List (Option rx_Ent) := [some (.inr (.inl (rx_q_retz 0 0)))]
noncomputable def rxE16 : List (List (Option rx_Ent)) := [rxE16_0, rxE16_1]
noncomputable def rxE17_0 : List (Option rx_Ent) := [some (.inl (fun _ => rx_q_load 0 0 1)), some (.inl (fun _ => rx_q_if .ne 10 4)), none, none, some (.inl (fun _ => rx_h_push (rx_n 300) 3)), none, none, some (.inl (fun _ => rx_q_goto 22)), none, none, some (.inl (fun _ => rx_q_load 0 0 1)), some (.inl (fun _ => rx_h_push (rx_n 1) 1)), some (.inl (fun _ => rx_q_icmp .ne 20 15)), none, none, some (.inl (fun _ => rx_h_push (rx_n 9) 2))]
noncomputable def rxE17_1 : List (Option rx_Ent) := [none, some (.inl (fun _ => rx_q_goto 22)), none, none, some (.inl (fun _ => rx_h_push (rx_n 100) 2)), none, some (.inr (.inl (rx_q_reti 0 0)))]
noncomputable def rxE17 : List (List (Option rx_Ent)) := [rxE17_0, rxE17_1]
noncomputable def rxE18_0 : List (Option rx_Ent) := [some (.inl (fun _ => rx_q_load 0 1 1)), some (.inl (fun _ => rx_q_load 0 0 1)), some (.inl (fun _ => rx_q_icmp .le 7 5)), none, none, some (.inl (fun _ => rx_h_push (.inr (1, (0, 0))) 1)), some (.inr (.inl (rx_q_retl 0 0))), some (.inl (fun _ => rx_h_push (.inr (1, (0, 1))) 1)), some (.inl (fun _ => rx_h_lstore 8 3 1)), some (.inl (fun _ => rx_h_push (rx_n 1) 1)), some (.inl (fun _ => rx_h_istore 8 5 2)), none, some (.inl (fun _ => rx_q_load 0 5 2)), none, some (.inl (fun _ => rx_q_load 0 0 1)), some (.inl (fun _ => rx_q_icmp .gt 43 18))]
noncomputable def rxE18_1 : List (Option rx_Ent) := [none, none, some (.inl (fun _ => rx_q_load 1 3 1)), some (.inl (fun _ => rx_q_load 0 5 2)), none, some (.inl (fun _ => rx_q_load 0 1 1)), some (.inl (fun _ => rx_q_icmp .gt 30 25)), none, none, some (.inl (fun _ => rx_q_load 0 2 1)), some (.inl (fun _ => rx_h_i2l)), some (.inl (fun _ => rx_q_goto 35)), none, none, some (.inl (fun _ => rx_h_push (rx_n 100) 2))]
noncomputable def rxE18_2 : List (Option rx_Ent) := [some (.inl (fun _ => rx_q_load 0 2 1)), some (.inl (fun _ => rx_h_bin 1)), some (.inl (fun _ => rx_h_i2l)), some (.inl (fun _ => rx_h_binL 2)), some (.inl (fun _ => rx_h_lstore 8 3 1)), some (.inl (fun _ => rx_h_iinc 8 5 1)), none, none, some (.inl (fun _ => rx_q_goto 12)), none, none, some (.inl (fun _ => rx_h_push (.inr (1, (0, 1))) 1)), some (.inl (fun _ => rx_h_lstore 8 5 2)), none, some (.inl (fun _ => rx_h_push (rx_n 1) 1)), some (.inl (fun _ => rx_h_istore 8 7 2))]
noncomputable def rxE18_3 : List (Option rx_Ent) := [none, some (.inl (fun _ => rx_q_load 0 7 2)), none, some (.inl (fun _ => rx_q_load 0 1 1)), some (.inl (fun _ => rx_q_icmp .gt 77 55)), none, none, some (.inl (fun _ => rx_q_load 1 5 2)), none, some (.inl (fun _ => rx_q_load 0 0 1)), some (.inl (fun _ => rx_q_load 0 1 1)), some (.inl (fun _ => rx_h_bin 1)), some (.inl (fun _ => rx_q_load 0 7 2)), none, some (.inl (fun _ => rx_h_bin 0)), some (.inl (fun _ => rx_h_i2l))]
noncomputable def rxE18_4 : List (Option rx_Ent) := [some (.inl (fun _ => rx_h_binL 2)), some (.inl (fun _ => rx_q_load 0 7 2)), none, some (.inl (fun _ => rx_h_i2l)), some (.inl (fun _ => rx_h_divL 3)), some (.inl (fun _ => rx_h_lstore 8 5 2)), none, some (.inl (fun _ => rx_h_iinc 8 7 1)), none, none, some (.inl (fun _ => rx_q_goto 49)), none, none, some (.inl (fun _ => rx_q_load 1 3 1)), some (.inl (fun _ => rx_q_load 1 5 2))]
noncomputable def rxE18_5 : List (Option rx_Ent) := [some (.inl (fun _ => rx_h_binL 2)), some (.inr (.inl (rx_q_retl 0 0)))]
noncomputable def rxE18 : List (List (Option rx_Ent)) := [rxE18_0, rxE18_1, rxE18_2, rxE18_3, rxE18_4, rxE18_5]
noncomputable def rxE19_0 : List (Option rx_Ent) := [some (.inl (fun _ => rx_q_load 1 0 1)), some (.inl (fun _ => rx_q_load 1 2 1)), some (.inl (fun _ => rx_q_lcmp .lt 17 6)), none, none, none, some (.inl (fun _ => rx_q_load 1 0 1)), some (.inl (fun _ => rx_q_load 1 4 2)), none, some (.inl (fun _ => rx_q_lcmp .gt 17 13)), none, none, none, some (.inl (fun _ => rx_h_push (rx_n 1) 1)), some (.inl (fun _ => rx_q_goto 18))]
noncomputable def rxE19_1 : List (Option rx_Ent) := [none, some (.inl (fun _ => rx_h_push (rx_n 0) 1)), some (.inr (.inl (rx_q_retz 0 0)))]
noncomputable def rxE19 : List (List (Option rx_Ent)) := [rxE19_0, rxE19_1]
noncomputable def rxE20_0 : List (Option rx_Ent) := [some (.inl (fun _ => rx_q_load 0 0 1)), some (.inl (fun _ => rx_h_i2l)), some (.inl (fun _ => rx_h_push (.inr (1, (0, 0))) 1)), some (.inl (fun _ => rx_h_push (.inr (1, (0, 5))) 3)), none, none, some (.inr (.inr (19, rxM19, rx_q_scall rxM20 rxM19 3))), none, none, some (.inl (fun _ => rx_q_if .eq 28 12)), none, none, some (.inl (fun _ => rx_q_load 0 1 1)), some (.inl (fun _ => rx_h_i2l)), some (.inl (fun _ => rx_h_push (.inr (1, (0, 0))) 1)), some (.inl (fun _ => rx_h_push (.inr (1, (0, 5))) 3))]
noncomputable def rxE20_1 : List (Option rx_Ent) := [none, none, some (.inr (.inr (19, rxM19, rx_q_scall rxM20 rxM19 3))), none, none, some (.inl (fun _ => rx_q_if .eq 28 24)), none, none, some (.inl (fun _ => rx_h_push (rx_n 1) 1)), some (.inl (fun _ => rx_q_goto 29)), none, none, some (.inl (fun _ => rx_h_push (rx_n 0) 1)), some (.inr (.inl (rx_q_retz 0 0)))]
noncomputable def rxE20 : List (List (Option rx_Ent)) := [rxE20_0, rxE20_1]
noncomputable def rxE21_0 : List (Option rx_Ent) := [some (.inl (fun _ => rx_q_load 0 0 1)), some (.inl (fun _ => rx_h_i2l)), some (.inl (fun _ => rx_h_push (.inr (1, (0, 0))) 1)), some (.inl (fun _ => rx_h_push (.inr (1, (0, 9))) 3)), none, none, some (.inr (.inr (19, rxM19, rx_q_scall rxM21 rxM19 3))), none, none, some (.inr (.inl (rx_q_retz 0 0)))]
noncomputable def rxE21 : List (List (Option rx_Ent)) := [rxE21_0]
noncomputable def rxE22_0 : List (Option rx_Ent) := [some (.inl (fun _ => rx_h_push (rx_n 0) 1)), some (.inl (fun _ => rx_h_istore 3 1 1)), some (.inl (fun _ => rx_q_load 0 1 1)), some (.inl (fun _ => rx_h_push (rx_n 1) 1)), some (.inl (fun _ => rx_q_loadA 0 1)), some (.inl (fun _ => rx_q_get (0, 0, 0, false, false))), none, none, some (.inl (fun _ => rx_h_bin 8)), some (.inl (fun _ => rx_q_icmp .ge 68 12)), none, none, some (.inl (fun _ => rx_q_loadA 0 1)), some (.inl (fun _ => rx_q_get (0, 4, 3, true, false)))]
noncomputable def rxE22_1 : List (Option rx_Ent) := [some (.inl (fun _ => rx_q_load 0 1 1)), some (.inl (fun _ => rx_h_push (rx_n 1) 1)), some (.inl (fun _ => rx_q_ast (rx_isTc 1) (fun I _ _ v => rx_fit I 1 v))), some (.inl (fun _ => rx_h_push (rx_n 0) 1)), some (.inl (fun _ => rx_h_istore 3 2 1)), some (.inl (fun _ => rx_q_load 0 2 1)), some (.inl (fun _ => rx_q_loadA 0 1)), some (.inl (fun _ => rx_q_get (0, 0, 0, false, false))), none, none, some (.inl (fun _ => rx_q_icmp .ge 62 29))]
noncomputable def rxE22_3 : List (Option rx_Ent) := [none, none, none, none, none, none, none, none, none, none, none, none, none, none, some (.inl (fun _ => rx_h_iinc 3 1 1))]
noncomputable def rxE22_4 : List (Option rx_Ent) := [none, some (.inl (fun _ => rx_q_goto 2)), none, none, some (.inr (.inl (rx_q_retv 0 0)))]
noncomputable def rxE22 : List (List (Option rx_Ent)) := [rxE22_0, rxE22_1, [], rxE22_3, rxE22_4]
noncomputable def rxE23_0 : List (Option rx_Ent) := [some (.inl (fun _ => rx_q_loadA 0 1)), some (.inl (fun _ => rx_q_get (0, 5, 3, true, false))), none, none, some (.inl (fun _ => rx_h_push (rx_n 0) 1)), some (.inl (rx_q_fill)), none, none, some (.inl (fun _ => rx_q_loadA 0 1)), some (.inl (fun _ => rx_q_get (0, 5, 3, true, false))), none, none, some (.inl (fun _ => rx_h_push (rx_n 0) 1)), some (.inl (fun _ => rx_h_push (rx_n 1) 1)), some (.inl (fun _ => rx_q_ast (rx_isTc 0) (fun I _ _ v => rx_fit I 0 v))), some (.inl (fun _ => rx_h_push (rx_n 0) 1))]
noncomputable def rxE23_1 : List (Option rx_Ent) := [some (.inl (fun _ => rx_h_istore 4 1 1)), some (.inl (fun _ => rx_q_load 0 1 1)), some (.inl (fun _ => rx_q_loadA 0 1)), some (.inl (fun _ => rx_q_get (0, 1, 0, false, false))), none, none, some (.inl (fun _ => rx_q_icmp .ge 95 25))]
noncomputable def rxE23_5 : List (Option rx_Ent) := [none, none, none, none, none, none, none, none, none, none, none, none, none, none, none, some (.inr (.inl (rx_q_retv 0 0)))]
noncomputable def rxE23 : List (List (Option rx_Ent)) := [rxE23_0, rxE23_1, [], [], [], rxE23_5]
noncomputable def rxE24_0 : List (Option rx_Ent) := [some (.inl (fun _ => rx_q_load 0 1 1)), some (.inl (fun _ => rx_q_loadA 0 1)), some (.inl (fun _ => rx_q_get (0, 0, 0, false, false))), none, none, some (.inl (fun _ => rx_q_icmp .ge 14 8)), none, none, none, none, none, none, none, none, some (.inl (fun _ => rx_h_push (rx_n 1) 1)), some (.inr (.inl (rx_q_retz 0 0)))]
noncomputable def rxE24 : List (List (Option rx_Ent)) := [rxE24_0]
noncomputable def rxE25_0 : List (Option rx_Ent) := [some (.inl (fun _ => rx_q_load 0 1 1)), some (.inl (fun _ => rx_q_loadA 0 1)), some (.inl (fun _ => rx_q_get (4, 7, 0, false, false))), none, none, some (.inr (.inr (13, rxM13, rx_q_scall rxM25 rxM13 2))), none, none, some (.inl (fun _ => rx_h_istore 3 2 1)), some (.inl (fun _ => rx_q_load 0 2 1)), some (.inl (fun _ => rx_q_if .lt 22 13)), none, none, some (.inl (fun _ => rx_q_loadA 0 1)), some (.inl (fun _ => rx_q_get (4, 12, 3, true, false)))]
noncomputable def rxE25_1 : List (Option rx_Ent) := [none, some (.inl (fun _ => rx_q_load 0 2 1)), some (.inl (fun _ => rx_q_ald (rx_isTc 0))), some (.inl (fun _ => rx_q_if .ge 28 22)), none, none, some (.inl (fun _ => rx_h_push (rx_n 1023) 3)), none, none, some (.inl (fun _ => rx_q_goto 36))]
noncomputable def rxE25_2 : List (Option rx_Ent) := [none, none, none, none, some (.inr (.inl (rx_q_reti 0 0)))]
noncomputable def rxE25 : List (List (Option rx_Ent)) := [rxE25_0, rxE25_1, rxE25_2]
noncomputable def rxE26_0 : List (Option rx_Ent) := [some (.inl (fun _ => rx_q_loadA 0 1)), some (.inl (fun _ => rx_q_load 0 1 1)), some (.inl (fun _ => rx_h_push (rx_n 3) 1)), some (.inl (rx_x_min)), none, none, some (.inl (fun _ => rx_q_put (4, 5, 0, false, false) false)), none, none, some (.inl (fun _ => rx_q_loadA 0 1)), some (.inl (fun _ => rx_q_load 0 2 1)), some (.inl (fun _ => rx_q_put (4, 6, 0, false, false) false)), none, none, some (.inl (fun _ => rx_q_loadA 0 1)), some (.inl (fun _ => rx_q_load 0 3 1))]
noncomputable def rxE26_1 : List (Option rx_Ent) := [some (.inl (fun _ => rx_q_put (4, 7, 0, false, false) false)), none, none, some (.inl (fun _ => rx_q_loadA 0 1)), some (.inl (fun _ => rx_q_load 0 4 2)), none, some (.inl (fun _ => rx_q_put (4, 8, 1, false, false) false)), none, none, some (.inl (fun _ => rx_q_loadA 0 1)), some (.inl (fun _ => rx_h_push (rx_n 0) 1)), some (.inl (fun _ => rx_q_put (4, 9, 0, false, false) false)), none, none, some (.inl (fun _ => rx_q_loadA 0 1)), some (.inl (fun _ => rx_h_push (rx_n 0) 1))]
noncomputable def rxE26_2 : List (Option rx_Ent) := [some (.inl (fun _ => rx_q_put (4, 10, 0, false, false) false)), none, none, some (.inl (fun _ => rx_q_loadA 0 1)), some (.inl (fun _ => rx_q_get (4, 12, 3, true, false))), none, none, some (.inl (fun _ => rx_h_push (rx_n (-1)) 1)), some (.inl (rx_q_fill)), none, none, some (.inl (fun _ => rx_q_loadA 0 1)), some (.inl (fun _ => rx_q_get (4, 13, 3, true, false))), none, none, some (.inl (fun _ => rx_h_push (rx_n (-1)) 1))]
noncomputable def rxE26_3 : List (Option rx_Ent) := [some (.inl (rx_q_fill)), none, none, some (.inl (fun _ => rx_q_loadA 0 1)), some (.inl (fun _ => rx_h_push (rx_n 0) 1)), some (.inl (fun _ => rx_h_push (rx_n 0) 1)), some (.inl (fun _ => rx_h_push (rx_n 1) 1)), some (.inr (.inr (27, rxM27, rx_q_vcall rxM26 rxM27 3 4))), none, none, some (.inr (.inl (rx_q_retv 0 0)))]
noncomputable def rxE26 : List (List (Option rx_Ent)) := [rxE26_0, rxE26_1, rxE26_2, rxE26_3]
noncomputable def rxE27_0 : List (Option rx_Ent) := [some (.inl (fun _ => rx_q_loadA 0 1)), some (.inl (fun _ => rx_q_get (4, 8, 1, false, false))), none, none, some (.inl (fun _ => rx_q_if .eq 14 7)), none, none, some (.inl (fun _ => rx_q_loadA 0 1)), some (.inl (fun _ => rx_q_get (4, 9, 0, false, false))), none, none, some (.inl (fun _ => rx_q_if .gt 24 14)), none, none, some (.inl (fun _ => rx_q_loadA 0 1)), some (.inl (fun _ => rx_q_get (4, 10, 0, false, false)))]
noncomputable def rxE27_1 : List (Option rx_Ent) := [none, none, some (.inl (fun _ => rx_h_push (rx_n 1023) 3)), none, none, some (.inl (fun _ => rx_q_icmp .ne 25 24)), none, none, none, some (.inl (fun _ => rx_q_load 0 1 1)), some (.inl (fun _ => rx_q_loadA 0 1)), some (.inl (fun _ => rx_q_get (4, 0, 0, false, false))), none, none, some (.inl (fun _ => rx_q_icmp .ge 39 33))]
noncomputable def rxE27_2 : List (Option rx_Ent) := [none, none, none, none, none, none, none, some (.inl (fun _ => rx_q_loadA 0 1)), some (.inl (fun _ => rx_h_dup)), some (.inl (fun _ => rx_q_get (4, 9, 0, false, false))), none, none, some (.inl (fun _ => rx_h_push (rx_n 1) 1)), some (.inl (fun _ => rx_h_bin 0)), some (.inl (fun _ => rx_q_put (4, 9, 0, false, false) false))]
noncomputable def rxE27_3 : List (Option rx_Ent) := [none, some (.inl (fun _ => rx_q_loadA 0 1)), some (.inl (fun _ => rx_q_get (4, 6, 0, false, false))), none, none, some (.inl (fun _ => rx_q_if .lt 69 56)), none, none, some (.inl (fun _ => rx_q_loadA 0 1)), some (.inl (fun _ => rx_h_dup)), some (.inl (fun _ => rx_q_get (4, 10, 0, false, false))), none, none, some (.inl (fun _ => rx_q_loadA 0 1)), some (.inr (.inr (28, rxM28, rx_q_vcall rxM27 rxM28 0 4)))]
noncomputable def rxE27_4 : List (Option rx_Ent) := [none, some (.inl (fun _ => rx_h_bin 6)), some (.inl (fun _ => rx_q_put (4, 10, 0, false, false) false)), none, none, some (.inr (.inl (rx_q_retv 0 0)))]
noncomputable def rxE27 : List (List (Option rx_Ent)) := [rxE27_0, rxE27_1, rxE27_2, rxE27_3, rxE27_4]
noncomputable def rxE28_0 : List (Option rx_Ent) := [some (.inl (fun _ => rx_q_loadA 0 1)), some (.inr (.inr (29, rxM29, rx_q_vcall rxM28 rxM29 0 4))), none, none, some (.inl (fun _ => rx_h_istore 4 1 1)), some (.inl (fun _ => rx_q_load 0 1 1)), some (.inl (fun _ => rx_q_if .lt 15 9)), none, none, some (.inl (fun _ => rx_q_loadA 0 1)), some (.inl (fun _ => rx_q_load 0 1 1)), some (.inr (.inr (25, rxM25, rx_q_vcall rxM28 rxM25 1 4))), none, none, some (.inr (.inl (rx_q_reti 0 0)))]
noncomputable def rxE28 : List (List (Option rx_Ent)) := [rxE28_0]
noncomputable def rxE29_0 : List (Option rx_Ent) := [some (.inl (fun _ => rx_q_loadA 0 1)), some (.inl (fun _ => rx_q_get (4, 6, 0, false, false))), none, none, some (.inl (fun _ => rx_q_if .lt 27 7)), none, none, some (.inl (fun _ => rx_q_loadA 0 1)), some (.inl (fun _ => rx_q_get (4, 6, 0, false, false))), none, none, some (.inl (fun _ => rx_h_push (rx_n 4) 1)), some (.inl (fun _ => rx_q_icmp .ge 27 15)), none, none, some (.inl (fun _ => rx_q_loadA 0 1))]
noncomputable def rxE29_1 : List (Option rx_Ent) := [some (.inl (fun _ => rx_q_get (4, 4, 3, true, false))), none, none, some (.inl (fun _ => rx_q_loadA 0 1)), some (.inl (fun _ => rx_q_get (4, 6, 0, false, false))), none, none, some (.inl (fun _ => rx_q_ald (rx_isTc 0))), some (.inl (fun _ => rx_q_goto 28)), none, none, none, some (.inl (fun _ => rx_h_istore 3 1 1)), some (.inl (fun _ => rx_q_load 0 1 1)), some (.inl (fun _ => rx_q_if .lt 39 33))]
noncomputable def rxE29_2 : List (Option rx_Ent) := [none, none, none, none, none, none, none, some (.inl (fun _ => rx_h_push (rx_n 0) 1)), some (.inr (.inl (rx_q_reti 0 0)))]
noncomputable def rxE29 : List (List (Option rx_Ent)) := [rxE29_0, rxE29_1, rxE29_2]
noncomputable def rxE30_0 : List (Option rx_Ent) := [some (.inl (fun _ => rx_q_loadA 0 1)), some (.inl (fun _ => rx_q_get (7, 3, 0, false, false))), none, none, some (.inl (fun _ => rx_q_loadA 0 1)), some (.inl (fun _ => rx_q_get (7, 2, 0, false, false))), none, none, some (.inl (fun _ => rx_h_bin 1)), some (.inl (fun _ => rx_q_loadA 1 1)), some (.inl (rx_x_slen rxSlen)), none, none, some (.inl (fun _ => rx_q_icmp .ne 27 16))]
noncomputable def rxE30_1 : List (Option rx_Ent) := [none, none, none, none, none, none, none, none, none, none, none, some (.inl (fun _ => rx_h_push (rx_n 0) 1)), some (.inr (.inl (rx_q_retz 0 0)))]
noncomputable def rxE30 : List (List (Option rx_Ent)) := [rxE30_0, rxE30_1]
noncomputable def rxE31_0 : List (Option rx_Ent) := [some (.inl (fun _ => rx_q_loadA 0 1)), some (.inl (fun _ => rx_h_push (rx_n 0) 1)), some (.inl (fun _ => rx_q_put (6, 0, 0, false, false) false)), none, none, some (.inl (fun _ => rx_q_loadA 0 1)), some (.inl (fun _ => rx_h_push (rx_n 0) 1)), some (.inl (fun _ => rx_q_put (6, 4, 0, false, false) false)), none, none, some (.inr (.inl (rx_q_retv 0 0)))]
noncomputable def rxE31 : List (List (Option rx_Ent)) := [rxE31_0]
noncomputable def rxE32_0 : List (Option rx_Ent) := [some (.inl (fun _ => rx_q_loadA 0 1)), some (.inl (fun _ => rx_q_loadA 0 1)), some (.inl (fun _ => rx_q_get (7, 3, 0, false, false))), none, none, some (.inl (fun _ => rx_q_put (7, 2, 0, false, false) false)), none, none, some (.inl (fun _ => rx_q_loadA 0 1)), some (.inl (fun _ => rx_q_get (7, 2, 0, false, false))), none, none, some (.inl (fun _ => rx_q_loadA 0 1)), some (.inl (fun _ => rx_q_get (7, 1, 0, false, false)))]
noncomputable def rxE32_1 : List (Option rx_Ent) := [some (.inl (fun _ => rx_q_icmp .ge 46 19))]
noncomputable def rxE32_2 : List (Option rx_Ent) := [none, none, none, none, none, none, none, none, none, none, none, none, none, none, some (.inl (fun _ => rx_q_loadA 0 1)), some (.inl (fun _ => rx_q_loadA 0 1))]
noncomputable def rxE32_3 : List (Option rx_Ent) := [some (.inl (fun _ => rx_q_get (7, 2, 0, false, false))), none, none, some (.inl (fun _ => rx_q_put (7, 3, 0, false, false) false)), none, none, some (.inl (fun _ => rx_q_loadA 0 1)), some (.inl (fun _ => rx_q_get (7, 2, 0, false, false))), none, none, some (.inl (fun _ => rx_q_loadA 0 1)), some (.inl (fun _ => rx_q_get (7, 1, 0, false, false))), none, none, some (.inl (fun _ => rx_q_icmp .lt 66 65))]
noncomputable def rxE32_4 : List (Option rx_Ent) := [none, some (.inr (.inl (rx_q_retv 0 0)))]
noncomputable def rxE32 : List (List (Option rx_Ent)) := [rxE32_0, rxE32_1, rxE32_2, rxE32_3, rxE32_4]
noncomputable def rxE33_0 : List (Option rx_Ent) := [some (.inl (fun _ => rx_q_loadA 0 1)), some (.inl (fun _ => rx_h_push (.inr (2, (0, ((1 : Nat) : Int)))) 2)), none, some (.inr (.inr (30, rxM30, rx_q_vcall rxM33 rxM30 1 7))), none, none, some (.inl (fun _ => rx_h_istore 3 1 1)), some (.inl (fun _ => rx_q_loadA 0 1)), some (.inl (fun _ => rx_h_push (.inr (2, (0, ((3 : Nat) : Int)))) 2)), none, some (.inr (.inr (30, rxM30, rx_q_vcall rxM33 rxM30 1 7))), none, none, some (.inl (fun _ => rx_h_istore 3 2 1)), some (.inl (fun _ => rx_q_load 0 1 1)), some (.inl (fun _ => rx_q_if .ne 36 18))]
noncomputable def rxE33_1 : List (Option rx_Ent) := [none, none, some (.inl (fun _ => rx_q_load 0 2 1)), some (.inl (fun _ => rx_q_if .ne 36 22)), none, none, some (.inl (fun _ => rx_q_loadA 0 1)), some (.inl (fun _ => rx_h_push (.inr (2, (0, ((2 : Nat) : Int)))) 2)), none, some (.inr (.inr (30, rxM30, rx_q_vcall rxM33 rxM30 1 7))), none, none, some (.inl (fun _ => rx_q_if .ne 36 31)), none, none, some (.inl (fun _ => rx_q_loadA 0 1))]
noncomputable def rxE33_2 : List (Option rx_Ent) := [some (.inr (.inr (34, rxM34, rx_q_vcall rxM33 rxM34 0 7))), none, none, some (.inr (.inl (rx_q_retz 0 0)))]
noncomputable def rxE33 : List (List (Option rx_Ent)) := [rxE33_0, rxE33_1, rxE33_2]
noncomputable def rxE34_0 : List (Option rx_Ent) := [some (.inl (fun _ => rx_q_loadA 0 1)), some (.inl (fun _ => rx_q_loadA 0 1)), some (.inl (fun _ => rx_q_get (7, 2, 0, false, false))), none, none, some (.inl (fun _ => rx_q_put (7, 4, 0, false, false) false)), none, none, some (.inl (fun _ => rx_h_push (rx_n 0) 1)), some (.inr (.inl (rx_q_retz 0 0)))]
noncomputable def rxE34 : List (List (Option rx_Ent)) := [rxE34_0]
noncomputable def rxE35_0 : List (Option rx_Ent) := [some (.inl (fun _ => rx_q_loadA 0 1)), some (.inl (fun _ => rx_q_get (9, 0, 3, true, false))), none, none, some (.inl (fun _ => rx_h_push (rx_n (-1)) 1)), some (.inl (rx_q_fill)), none, none, some (.inl (fun _ => rx_q_loadA 0 1)), some (.inl (fun _ => rx_q_get (9, 1, 3, true, false))), none, none, some (.inl (fun _ => rx_h_push (rx_n (-1)) 1)), some (.inl (rx_q_fill))]
noncomputable def rxE35_1 : List (Option rx_Ent) := [some (.inr (.inl (rx_q_retv 0 0)))]
noncomputable def rxE35 : List (List (Option rx_Ent)) := [rxE35_0, rxE35_1]
noncomputable def rxE36_0 : List (Option rx_Ent) := [some (.inl (fun _ => rx_q_loadA 1 1)), some (.inl (fun _ => rx_q_get (9, 0, 3, true, false))), none, none, some (.inl (fun _ => rx_h_push (rx_n 0) 1)), some (.inl (fun _ => rx_q_loadA 0 1)), some (.inl (fun _ => rx_q_get (9, 0, 3, true, false))), none, none, some (.inl (fun _ => rx_h_push (rx_n 0) 1)), some (.inl (fun _ => rx_h_push (rx_n 36) 2)), none, some (.inl (rx_q_copy)), none, none, some (.inl (fun _ => rx_q_loadA 1 1))]
noncomputable def rxE36_1 : List (Option rx_Ent) := [some (.inl (fun _ => rx_q_get (9, 1, 3, true, false))), none, none, some (.inl (fun _ => rx_h_push (rx_n 0) 1)), some (.inl (fun _ => rx_q_loadA 0 1)), some (.inl (fun _ => rx_q_get (9, 1, 3, true, false))), none, none, some (.inl (fun _ => rx_h_push (rx_n 0) 1)), some (.inl (fun _ => rx_h_push (rx_n 36) 2)), none, some (.inl (rx_q_copy)), none, none, some (.inr (.inl (rx_q_retv 0 0)))]
noncomputable def rxE36 : List (List (Option rx_Ent)) := [rxE36_0, rxE36_1]
noncomputable def rxE37_0 : List (Option rx_Ent) := [some (.inl (fun _ => rx_q_loadA 0 1)), some (.inl (fun _ => rx_q_loadA 1 1)), some (.inl (fun _ => rx_q_get (5, 0, 0, false, false))), none, none, some (.inl (fun _ => rx_q_put (5, 0, 0, false, false) false)), none, none, some (.inl (fun _ => rx_q_loadA 1 1)), some (.inl (fun _ => rx_q_get (5, 1, 3, true, false))), none, none, some (.inl (fun _ => rx_h_push (rx_n 0) 1)), some (.inl (fun _ => rx_q_loadA 0 1)), some (.inl (fun _ => rx_q_get (5, 1, 3, true, false)))]
noncomputable def rxE37_1 : List (Option rx_Ent) := [none, some (.inl (fun _ => rx_h_push (rx_n 0) 1)), some (.inl (fun _ => rx_h_push (rx_n 8) 2)), none, some (.inl (rx_q_copy)), none, none, some (.inl (fun _ => rx_q_loadA 1 1)), some (.inl (fun _ => rx_q_get (5, 2, 3, true, false))), none, none, some (.inl (fun _ => rx_h_push (rx_n 0) 1)), some (.inl (fun _ => rx_q_loadA 0 1)), some (.inl (fun _ => rx_q_get (5, 2, 3, true, false)))]
noncomputable def rxE37_2 : List (Option rx_Ent) := [some (.inl (fun _ => rx_h_push (rx_n 0) 1)), some (.inl (fun _ => rx_h_push (rx_n 8) 2)), none, some (.inl (rx_q_copy)), none, none, some (.inl (fun _ => rx_q_loadA 1 1)), some (.inl (fun _ => rx_q_get (5, 3, 3, true, false))), none, none, some (.inl (fun _ => rx_h_push (rx_n 0) 1)), some (.inl (fun _ => rx_q_loadA 0 1)), some (.inl (fun _ => rx_q_get (5, 3, 3, true, false))), none, none, some (.inl (fun _ => rx_h_push (rx_n 0) 1))]
noncomputable def rxE37_3 : List (Option rx_Ent) := [some (.inl (fun _ => rx_h_push (rx_n 8) 2)), none, some (.inl (rx_q_copy)), none, none, some (.inr (.inl (rx_q_retv 0 0)))]
noncomputable def rxE37 : List (List (Option rx_Ent)) := [rxE37_0, rxE37_1, rxE37_2, rxE37_3]
noncomputable def rxE38_0 : List (Option rx_Ent) := [some (.inl (fun _ => rx_q_loadA 0 1)), some (.inl (fun _ => rx_q_loadA 1 1)), some (.inl (fun _ => rx_q_get (2, 0, 0, false, false))), none, none, some (.inl (fun _ => rx_q_put (2, 0, 0, false, false) false)), none, none, some (.inl (fun _ => rx_q_loadA 1 1)), some (.inl (fun _ => rx_q_get (2, 1, 3, true, false))), none, none, some (.inl (fun _ => rx_h_push (rx_n 0) 1)), some (.inl (fun _ => rx_q_loadA 0 1)), some (.inl (fun _ => rx_q_get (2, 1, 3, true, false)))]
noncomputable def rxE38_1 : List (Option rx_Ent) := [none, some (.inl (fun _ => rx_h_push (rx_n 0) 1)), some (.inl (fun _ => rx_h_push (rx_n 12) 2)), none, some (.inl (rx_q_copy)), none, none, some (.inl (fun _ => rx_q_loadA 1 1)), some (.inl (fun _ => rx_q_get (2, 2, 3, true, false))), none, none, some (.inl (fun _ => rx_h_push (rx_n 0) 1)), some (.inl (fun _ => rx_q_loadA 0 1)), some (.inl (fun _ => rx_q_get (2, 2, 3, true, false)))]
noncomputable def rxE38_2 : List (Option rx_Ent) := [some (.inl (fun _ => rx_h_push (rx_n 0) 1)), some (.inl (fun _ => rx_h_push (rx_n 12) 2)), none, some (.inl (rx_q_copy)), none, none, some (.inl (fun _ => rx_q_loadA 1 1)), some (.inl (fun _ => rx_q_get (2, 3, 3, true, false))), none, none, some (.inl (fun _ => rx_h_push (rx_n 0) 1)), some (.inl (fun _ => rx_q_loadA 0 1)), some (.inl (fun _ => rx_q_get (2, 3, 3, true, false))), none, none, some (.inl (fun _ => rx_h_push (rx_n 0) 1))]
noncomputable def rxE38_3 : List (Option rx_Ent) := [some (.inl (fun _ => rx_h_push (rx_n 12) 2)), none, some (.inl (rx_q_copy)), none, none, some (.inr (.inl (rx_q_retv 0 0)))]
noncomputable def rxE38 : List (List (Option rx_Ent)) := [rxE38_0, rxE38_1, rxE38_2, rxE38_3]
noncomputable def rxE39_0 : List (Option rx_Ent) := [some (.inl (fun _ => rx_q_loadA 0 1)), some (.inl (fun _ => rx_q_load 0 1 1)), some (.inl (fun _ => rx_q_put (11, 8, 0, false, false) false)), none, none, some (.inl (fun _ => rx_q_load 0 1 1)), some (.inl (fun _ => rx_h_table 86 (-5) (-1) #[73, 86, 60, 47, 34]))]
noncomputable def rxE39_2 : List (Option rx_Ent) := [none, none, none, none, none, none, none, none, some (.inl (fun _ => rx_q_loadA 0 1)), some (.inl (fun _ => rx_q_get (11, 9, 3, true, false))), none, none, some (.inl (fun _ => rx_h_push (rx_n 0) 1)), some (.inl (fun _ => rx_h_dup2)), some (.inl (fun _ => rx_q_ald (rx_isTc 0))), some (.inl (fun _ => rx_h_push (rx_n 1) 1))]
noncomputable def rxE39_3 : List (Option rx_Ent) := [some (.inl (fun _ => rx_h_bin 0)), some (.inl (fun _ => rx_q_ast (rx_isTc 0) (fun I _ _ v => rx_fit I 0 v))), some (.inl (fun _ => rx_q_goto 102)), none, none, some (.inl (fun _ => rx_q_loadA 0 1)), some (.inl (fun _ => rx_q_get (11, 9, 3, true, false))), none, none, some (.inl (fun _ => rx_h_push (rx_n 1) 1)), some (.inl (fun _ => rx_h_dup2)), some (.inl (fun _ => rx_q_ald (rx_isTc 0))), some (.inl (fun _ => rx_h_push (rx_n 1) 1)), some (.inl (fun _ => rx_h_bin 0)), some (.inl (fun _ => rx_q_ast (rx_isTc 0) (fun I _ _ v => rx_fit I 0 v))), some (.inl (fun _ => rx_q_goto 102))]
noncomputable def rxE39_4 : List (Option rx_Ent) := [none, none, some (.inl (fun _ => rx_q_loadA 0 1)), some (.inl (fun _ => rx_q_get (11, 9, 3, true, false))), none, none, some (.inl (fun _ => rx_h_push (rx_n 2) 1)), some (.inl (fun _ => rx_h_dup2)), some (.inl (fun _ => rx_q_ald (rx_isTc 0))), some (.inl (fun _ => rx_h_push (rx_n 1) 1)), some (.inl (fun _ => rx_h_bin 0)), some (.inl (fun _ => rx_q_ast (rx_isTc 0) (fun I _ _ v => rx_fit I 0 v))), some (.inl (fun _ => rx_q_goto 102))]
noncomputable def rxE39_5 : List (Option rx_Ent) := [none, none, none, none, none, none, none, none, none, none, none, none, some (.inl (fun _ => rx_q_loadA 0 1)), some (.inl (fun _ => rx_q_get (11, 9, 3, true, false)))]
noncomputable def rxE39_6 : List (Option rx_Ent) := [some (.inl (fun _ => rx_h_push (rx_n 4) 1)), some (.inl (fun _ => rx_h_dup2)), some (.inl (fun _ => rx_q_ald (rx_isTc 0))), some (.inl (fun _ => rx_h_push (rx_n 1) 1)), some (.inl (fun _ => rx_h_bin 0)), some (.inl (fun _ => rx_q_ast (rx_isTc 0) (fun I _ _ v => rx_fit I 0 v))), some (.inl (fun _ => rx_q_load 0 1 1)), some (.inr (.inl (rx_q_reti 0 0)))]
noncomputable def rxE39 : List (List (Option rx_Ent)) := [rxE39_0, [], rxE39_2, rxE39_3, rxE39_4, rxE39_5, rxE39_6]
noncomputable def rxE40_0 : List (Option rx_Ent) := [some (.inl (fun _ => rx_q_loadA 0 1)), some (.inl (fun _ => rx_q_get (10, 0, 0, false, false))), none, none, some (.inl (fun _ => rx_h_push (rx_n 6) 2)), none, some (.inl (fun _ => rx_q_icmp .lt 11 9)), none, none, none, none, some (.inl (fun _ => rx_q_loadA 0 1)), some (.inl (fun _ => rx_q_get (10, 1, 3, true, false))), none, none, some (.inl (fun _ => rx_q_loadA 0 1))]
noncomputable def rxE40_1 : List (Option rx_Ent) := [some (.inl (fun _ => rx_q_get (10, 0, 0, false, false))), none, none, some (.inl (fun _ => rx_q_load 0 1 1)), some (.inl (fun _ => rx_q_ast (rx_isTc 0) (fun I _ _ v => rx_fit I 0 v))), some (.inl (fun _ => rx_q_loadA 0 1)), some (.inl (fun _ => rx_q_get (10, 2, 3, true, false))), none, none, some (.inl (fun _ => rx_q_loadA 0 1)), some (.inl (fun _ => rx_q_get (10, 0, 0, false, false))), none, none, some (.inl (fun _ => rx_q_load 0 2 1)), some (.inl (fun _ => rx_q_ast (rx_isTc 0) (fun I _ _ v => rx_fit I 0 v))), some (.inl (fun _ => rx_q_loadA 0 1))]
noncomputable def rxE40_2 : List (Option rx_Ent) := [some (.inl (fun _ => rx_q_get (10, 3, 3, true, false))), none, none, some (.inl (fun _ => rx_q_loadA 0 1)), some (.inl (fun _ => rx_q_get (10, 0, 0, false, false))), none, none, some (.inl (fun _ => rx_q_ald rx_isRef)), some (.inr (.inr (35, rxM35, rx_q_vcall rxM40 rxM35 0 9))), none, none, some (.inl (fun _ => rx_q_loadA 0 1)), some (.inl (fun _ => rx_h_dup)), some (.inl (fun _ => rx_q_get (10, 0, 0, false, false)))]
noncomputable def rxE40_3 : List (Option rx_Ent) := [some (.inl (fun _ => rx_h_push (rx_n 1) 1)), some (.inl (fun _ => rx_h_bin 0)), some (.inl (fun _ => rx_q_put (10, 0, 0, false, false) false)), none, none, some (.inl (fun _ => rx_q_loadA 0 1)), some (.inl (fun _ => rx_q_get (10, 0, 0, false, false))), none, none, some (.inl (fun _ => rx_h_push (rx_n 1) 1)), some (.inl (fun _ => rx_h_bin 1)), some (.inr (.inl (rx_q_reti 0 0)))]
noncomputable def rxE40 : List (List (Option rx_Ent)) := [rxE40_0, rxE40_1, rxE40_2, rxE40_3]
noncomputable def rxE41_0 : List (Option rx_Ent) := [some (.inl (fun _ => rx_q_loadA 0 1)), some (.inl (fun _ => rx_h_push (rx_n 0) 1)), some (.inl (fun _ => rx_q_put (11, 8, 0, false, false) false)), none, none, some (.inl (fun _ => rx_q_load 0 1 1)), some (.inr (.inl (rx_q_reti 0 0)))]
noncomputable def rxE41 : List (List (Option rx_Ent)) := [rxE41_0]
noncomputable def rxE42_0 : List (Option rx_Ent) := [some (.inl (fun _ => rx_q_load 0 1 1)), some (.inl (fun _ => rx_q_if .lt 22 4)), none, none, some (.inl (fun _ => rx_q_load 0 1 1)), some (.inl (fun _ => rx_q_loadA 0 1)), some (.inl (fun _ => rx_q_get (10, 0, 0, false, false))), none, none, some (.inl (fun _ => rx_q_icmp .ge 22 12))]
noncomputable def rxE42_1 : List (Option rx_Ent) := [none, none, none, none, none, none, some (.inl (fun _ => rx_h_push (rx_n 0) 1)), some (.inr (.inl (rx_q_retz 0 0)))]
noncomputable def rxE42 : List (List (Option rx_Ent)) := [rxE42_0, rxE42_1]
noncomputable def rxE43_0 : List (Option rx_Ent) := [some (.inl (fun _ => rx_q_loadA 0 1)), some (.inl (fun _ => rx_q_get (5, 0, 0, false, false))), none, none, some (.inl (fun _ => rx_h_push (rx_n 8) 2)), none, some (.inl (fun _ => rx_q_icmp .lt 11 9)), none, none, none, none, some (.inl (fun _ => rx_q_loadA 0 1)), some (.inl (fun _ => rx_q_get (5, 1, 3, true, false))), none, none, some (.inl (fun _ => rx_q_loadA 0 1))]
noncomputable def rxE43_1 : List (Option rx_Ent) := [some (.inl (fun _ => rx_q_get (5, 0, 0, false, false))), none, none, some (.inl (fun _ => rx_q_load 0 1 1)), some (.inl (fun _ => rx_q_ast (rx_isTc 0) (fun I _ _ v => rx_fit I 0 v))), some (.inl (fun _ => rx_q_loadA 0 1)), some (.inl (fun _ => rx_q_get (5, 2, 3, true, false))), none, none, some (.inl (fun _ => rx_q_loadA 0 1)), some (.inl (fun _ => rx_q_get (5, 0, 0, false, false))), none, none, some (.inl (fun _ => rx_q_load 0 2 1)), some (.inl (fun _ => rx_q_ast (rx_isTc 0) (fun I _ _ v => rx_fit I 0 v))), some (.inl (fun _ => rx_q_loadA 0 1))]
noncomputable def rxE43_2 : List (Option rx_Ent) := [some (.inl (fun _ => rx_q_get (5, 3, 3, true, false))), none, none, some (.inl (fun _ => rx_q_loadA 0 1)), some (.inl (fun _ => rx_q_get (5, 0, 0, false, false))), none, none, some (.inl (fun _ => rx_q_load 0 3 1)), some (.inl (fun _ => rx_q_ast (rx_isTc 0) (fun I _ _ v => rx_fit I 0 v))), some (.inl (fun _ => rx_q_loadA 0 1)), some (.inl (fun _ => rx_h_dup)), some (.inl (fun _ => rx_q_get (5, 0, 0, false, false))), none, none, some (.inl (fun _ => rx_h_push (rx_n 1) 1)), some (.inl (fun _ => rx_h_bin 0))]
noncomputable def rxE43_3 : List (Option rx_Ent) := [some (.inl (fun _ => rx_q_put (5, 0, 0, false, false) false)), none, none, some (.inl (fun _ => rx_q_loadA 0 1)), some (.inl (fun _ => rx_q_get (5, 0, 0, false, false))), none, none, some (.inl (fun _ => rx_h_push (rx_n 1) 1)), some (.inl (fun _ => rx_h_bin 1)), some (.inr (.inl (rx_q_reti 0 0)))]
noncomputable def rxE43 : List (List (Option rx_Ent)) := [rxE43_0, rxE43_1, rxE43_2, rxE43_3]
noncomputable def rxE44_0 : List (Option rx_Ent) := [some (.inl (fun _ => rx_q_load 0 1 1)), some (.inl (fun _ => rx_q_if .lt 22 4)), none, none, some (.inl (fun _ => rx_q_load 0 1 1)), some (.inl (fun _ => rx_q_loadA 0 1)), some (.inl (fun _ => rx_q_get (5, 0, 0, false, false))), none, none, some (.inl (fun _ => rx_q_icmp .ge 22 12))]
noncomputable def rxE44_1 : List (Option rx_Ent) := [none, none, none, none, none, none, some (.inl (fun _ => rx_h_push (rx_n 0) 1)), some (.inr (.inl (rx_q_retz 0 0)))]
noncomputable def rxE44 : List (List (Option rx_Ent)) := [rxE44_0, rxE44_1]
noncomputable def rxE45_0 : List (Option rx_Ent) := [some (.inl (fun _ => rx_h_push (rx_n 24) 2)), none, some (.inl (fun _ => rx_h_istore 3 2 1)), some (.inl (fun _ => rx_q_load 0 2 1)), some (.inl (fun _ => rx_q_if .lt 49 7)), none, none, some (.inl (fun _ => rx_q_loadA 0 1)), some (.inl (fun _ => rx_q_get (11, 4, 0, false, false))), none, none, some (.inl (fun _ => rx_h_push (rx_n 400) 3)), none, none, some (.inl (fun _ => rx_q_icmp .ge 49 17))]
noncomputable def rxE45_1 : List (Option rx_Ent) := [none, some (.inl (fun _ => rx_q_loadA 0 1)), some (.inl (fun _ => rx_q_get (11, 3, 3, true, false))), none, none, some (.inl (fun _ => rx_q_loadA 0 1)), some (.inl (fun _ => rx_q_get (11, 4, 0, false, false))), none, none, some (.inl (fun _ => rx_q_load 0 1 1)), some (.inl (fun _ => rx_q_load 0 2 1)), some (.inl (fun _ => rx_h_bin 10)), some (.inl (fun _ => rx_h_push (rx_n 255) 3)), none, none, some (.inl (fun _ => rx_h_bin 5))]
noncomputable def rxE45_2 : List (Option rx_Ent) := [some (.inl (fun _ => rx_q_ast (rx_isTc 0) (fun I _ _ v => rx_fit I 0 v))), some (.inl (fun _ => rx_q_loadA 0 1)), some (.inl (fun _ => rx_h_dup)), some (.inl (fun _ => rx_q_get (11, 4, 0, false, false))), none, none, some (.inl (fun _ => rx_h_push (rx_n 1) 1)), some (.inl (fun _ => rx_h_bin 0)), some (.inl (fun _ => rx_q_put (11, 4, 0, false, false) false)), none, none, some (.inl (fun _ => rx_h_iinc 3 2 (-8))), none, none, some (.inl (fun _ => rx_q_goto 3))]
noncomputable def rxE45_3 : List (Option rx_Ent) := [none, some (.inr (.inl (rx_q_retv 0 0)))]
noncomputable def rxE45 : List (List (Option rx_Ent)) := [rxE45_0, rxE45_1, rxE45_2, rxE45_3]
noncomputable def rxE46_0 : List (Option rx_Ent) := [some (.inl (fun _ => rx_q_loadA 0 1)), some (.inl (fun _ => rx_q_loadA 1 1)), some (.inl (fun _ => rx_q_put (7, 0, 3, false, false) false)), none, none, some (.inl (fun _ => rx_q_loadA 0 1)), some (.inl (fun _ => rx_q_load 0 2 1)), some (.inl (fun _ => rx_q_loadA 0 1)), some (.inl (fun _ => rx_q_get (7, 0, 3, false, false))), none, none, some (.inl (fun _ => rx_q_alen)), some (.inl (rx_x_min)), none, none, some (.inl (fun _ => rx_q_put (7, 1, 0, false, false) false))]
noncomputable def rxE46_1 : List (Option rx_Ent) := [none, none, some (.inl (fun _ => rx_q_loadA 0 1)), some (.inl (fun _ => rx_h_push (rx_n 0) 1)), some (.inl (fun _ => rx_q_put (7, 3, 0, false, false) false)), none, none, some (.inl (fun _ => rx_q_loadA 0 1)), some (.inl (fun _ => rx_h_push (rx_n (-1)) 1)), some (.inl (fun _ => rx_q_put (7, 4, 0, false, false) false)), none, none, some (.inl (fun _ => rx_q_loadA 0 1)), some (.inl (fun _ => rx_q_load 0 3 1)), some (.inl (fun _ => rx_q_put (7, 5, 1, false, false) false))]
noncomputable def rxE46_2 : List (Option rx_Ent) := [none, some (.inl (fun _ => rx_q_loadA 0 1)), some (.inl (fun _ => rx_q_loadA 4 2)), none, some (.inl (fun _ => rx_q_put (7, 6, 3, false, false) false)), none, none, some (.inl (fun _ => rx_q_loadA 0 1)), some (.inl (fun _ => rx_q_get (7, 6, 3, false, false))), none, none, some (.inr (.inr (31, rxM31, rx_q_vcall rxM46 rxM31 0 6))), none, none, some (.inl (fun _ => rx_q_loadA 0 1)), some (.inl (fun _ => rx_h_push (rx_n 0) 1))]
noncomputable def rxE46_3 : List (Option rx_Ent) := [some (.inl (fun _ => rx_q_put (7, 7, 0, false, false) false)), none, none, some (.inl (fun _ => rx_q_loadA 0 1)), some (.inr (.inr (32, rxM32, rx_q_vcall rxM46 rxM32 0 7))), none, none, some (.inl (fun _ => rx_h_push (rx_n 0) 1)), some (.inl (fun _ => rx_h_istore 7 5 2)), none, some (.inl (fun _ => rx_q_load 0 5 2)), none, some (.inl (fun _ => rx_h_push (rx_n 12) 2)), none, some (.inl (fun _ => rx_q_icmp .ge 136 65))]
noncomputable def rxE46_4 : List (Option rx_Ent) := [none, some (.inl (fun _ => rx_q_loadA 0 1)), some (.inl (fun _ => rx_q_get (7, 5, 1, false, false))), none, none, some (.inl (fun _ => rx_q_if .eq 79 72)), none, none, none, none, none, none, none, none, none, some (.inl (fun _ => rx_q_loadA 0 1))]
noncomputable def rxE46_5 : List (Option rx_Ent) := [some (.inr (.inr (33, rxM33, rx_q_vcall rxM46 rxM33 0 7))), none, none, some (.inl (fun _ => rx_h_istore 7 6 2)), none, some (.inl (fun _ => rx_q_load 0 6 2)), none, some (.inl (fun _ => rx_q_if .eq 97 90))]
noncomputable def rxE46_6 : List (Option rx_Ent) := [none, some (.inl (fun _ => rx_h_push (rx_n 0) 1)), some (.inr (.inl (rx_q_retz 0 0)))]
noncomputable def rxE46 : List (List (Option rx_Ent)) := [rxE46_0, rxE46_1, rxE46_2, rxE46_3, rxE46_4, rxE46_5, rxE46_6]
noncomputable def rxE47_0 : List (Option rx_Ent) := [some (.inl (fun _ => rx_q_load 0 1 1)), some (.inl (fun _ => rx_q_if .lt 22 4)), none, none, some (.inl (fun _ => rx_q_load 0 1 1)), some (.inl (fun _ => rx_q_loadA 0 1)), some (.inl (fun _ => rx_q_get (10, 14, 0, false, false))), none, none, some (.inl (fun _ => rx_q_icmp .ge 22 12))]
noncomputable def rxE47_1 : List (Option rx_Ent) := [none, none, none, none, none, none, some (.inl (fun _ => rx_h_push (rx_n 0) 1)), some (.inr (.inl (rx_q_retz 0 0)))]
noncomputable def rxE47 : List (List (Option rx_Ent)) := [rxE47_0, rxE47_1]
noncomputable def rxE48_0 : List (Option rx_Ent) := [some (.inl (fun _ => rx_q_loadA 0 1)), some (.inl (fun _ => rx_q_get (10, 10, 0, false, false))), none, none, some (.inl (fun _ => rx_h_push (rx_n 12) 2)), none, some (.inl (fun _ => rx_q_icmp .lt 11 9)), none, none, none, none, some (.inl (fun _ => rx_q_loadA 0 1)), some (.inl (fun _ => rx_q_get (10, 11, 3, true, false))), none, none, some (.inl (fun _ => rx_q_loadA 0 1))]
noncomputable def rxE48_1 : List (Option rx_Ent) := [some (.inl (fun _ => rx_q_get (10, 10, 0, false, false))), none, none, some (.inl (fun _ => rx_q_load 0 1 1)), some (.inl (fun _ => rx_q_ast (rx_isTc 0) (fun I _ _ v => rx_fit I 0 v))), some (.inl (fun _ => rx_q_loadA 0 1)), some (.inl (fun _ => rx_h_dup)), some (.inl (fun _ => rx_q_get (10, 10, 0, false, false))), none, none, some (.inl (fun _ => rx_h_push (rx_n 1) 1)), some (.inl (fun _ => rx_h_bin 0)), some (.inl (fun _ => rx_q_put (10, 10, 0, false, false) false)), none, none, some (.inl (fun _ => rx_q_loadA 0 1))]
noncomputable def rxE48_2 : List (Option rx_Ent) := [some (.inl (fun _ => rx_q_get (10, 10, 0, false, false))), none, none, some (.inr (.inl (rx_q_reti 0 0)))]
noncomputable def rxE48 : List (List (Option rx_Ent)) := [rxE48_0, rxE48_1, rxE48_2]
noncomputable def rxE49_0 : List (Option rx_Ent) := [some (.inl (fun _ => rx_q_load 0 1 1)), some (.inl (fun _ => rx_q_if .lt 22 4)), none, none, some (.inl (fun _ => rx_q_load 0 1 1)), some (.inl (fun _ => rx_q_loadA 0 1)), some (.inl (fun _ => rx_q_get (10, 5, 0, false, false))), none, none, some (.inl (fun _ => rx_q_icmp .ge 22 12))]
noncomputable def rxE49_1 : List (Option rx_Ent) := [none, none, none, none, none, none, some (.inl (fun _ => rx_h_push (rx_n 0) 1)), some (.inr (.inl (rx_q_retz 0 0)))]
noncomputable def rxE49 : List (List (Option rx_Ent)) := [rxE49_0, rxE49_1]
noncomputable def rxE50_0 : List (Option rx_Ent) := [some (.inl (fun _ => rx_q_loadA 0 1)), some (.inl (fun _ => rx_q_get (11, 0, 3, true, false))), none, none, some (.inl (fun _ => rx_q_load 0 1 1)), some (.inr (.inr (49, rxM49, rx_q_vcall rxM50 rxM49 1 10))), none, none, some (.inl (fun _ => rx_q_if .eq 32 11))]
noncomputable def rxE50_2 : List (Option rx_Ent) := [some (.inl (fun _ => rx_h_push (rx_n 0) 1)), some (.inr (.inl (rx_q_retz 0 0)))]
noncomputable def rxE50 : List (List (Option rx_Ent)) := [rxE50_0, [], rxE50_2]
noncomputable def rxE51_0 : List (Option rx_Ent) := [some (.inl (fun _ => rx_q_loadA 0 1)), some (.inl (fun _ => rx_q_loadA 1 1)), some (.inl (fun _ => rx_q_get (10, 0, 0, false, true))), none, none, some (.inl (fun _ => rx_h_push (rx_n 6) 2)), none, some (.inl (rx_x_min)), none, none, some (.inl (fun _ => rx_q_put (0, 0, 0, false, false) false)), none, none, some (.inl (fun _ => rx_q_loadA 0 1)), some (.inl (fun _ => rx_q_loadA 1 1)), some (.inl (fun _ => rx_q_get (10, 4, 3, true, true)))]
noncomputable def rxE51_1 : List (Option rx_Ent) := [none, none, some (.inl (fun _ => rx_q_get (5, 0, 0, false, true))), none, none, some (.inl (fun _ => rx_h_push (rx_n 8) 2)), none, some (.inl (rx_x_min)), none, none, some (.inl (fun _ => rx_q_put (0, 1, 0, false, false) false)), none, none, some (.inl (fun _ => rx_h_push (rx_n 0) 1)), some (.inl (fun _ => rx_h_istore 5 2 1)), some (.inl (fun _ => rx_q_load 0 2 1))]
noncomputable def rxE51_2 : List (Option rx_Ent) := [some (.inl (fun _ => rx_q_loadA 0 1)), some (.inl (fun _ => rx_q_get (0, 0, 0, false, false))), none, none, some (.inl (fun _ => rx_q_icmp .ge 127 39))]
noncomputable def rxE51_7 : List (Option rx_Ent) := [none, none, none, none, none, none, none, none, none, none, none, none, none, none, none, some (.inl (fun _ => rx_h_push (rx_n 0) 1))]
noncomputable def rxE51_8 : List (Option rx_Ent) := [some (.inl (fun _ => rx_h_istore 5 2 1)), some (.inl (fun _ => rx_q_load 0 2 1)), some (.inl (fun _ => rx_q_loadA 0 1)), some (.inl (fun _ => rx_q_get (0, 1, 0, false, false))), none, none, some (.inl (fun _ => rx_q_icmp .ge 187 137))]
noncomputable def rxE51_11 : List (Option rx_Ent) := [none, none, none, none, none, none, none, none, none, none, none, some (.inr (.inl (rx_q_retv 0 0)))]
noncomputable def rxE51 : List (List (Option rx_Ent)) := [rxE51_0, rxE51_1, rxE51_2, [], [], [], [], rxE51_7, rxE51_8, [], [], rxE51_11]
noncomputable def rxE52_0 : List (Option rx_Ent) := [some (.inl (fun _ => rx_q_loadA 0 1)), some (.inr (.inr (22, rxM22, rx_q_vcall rxM52 rxM22 0 0))), none, none, some (.inl (fun _ => rx_q_loadA 0 1)), some (.inr (.inr (23, rxM23, rx_q_vcall rxM52 rxM23 0 0))), none, none, some (.inl (fun _ => rx_q_loadA 0 1)), some (.inl (fun _ => rx_h_push (rx_n (-1)) 1)), some (.inl (fun _ => rx_q_put (0, 8, 0, false, false) false)), none, none, some (.inl (fun _ => rx_q_loadA 0 1)), some (.inl (fun _ => rx_h_push (rx_n 0) 1)), some (.inl (fun _ => rx_q_put (0, 9, 0, false, false) false))]
noncomputable def rxE52_1 : List (Option rx_Ent) := [none, none, some (.inl (fun _ => rx_h_push (rx_n 1) 1)), some (.inl (fun _ => rx_q_loadA 0 1)), some (.inl (fun _ => rx_q_get (0, 0, 0, false, false))), none, none, some (.inl (fun _ => rx_h_bin 8)), some (.inl (fun _ => rx_h_push (rx_n 1) 1)), some (.inl (fun _ => rx_h_bin 1)), some (.inl (fun _ => rx_h_istore 3 1 1)), some (.inl (fun _ => rx_h_push (rx_n 0) 1)), some (.inl (fun _ => rx_h_istore 3 2 1)), some (.inl (fun _ => rx_q_load 0 2 1)), some (.inl (fun _ => rx_h_push (rx_n 6) 2))]
noncomputable def rxE52_2 : List (Option rx_Ent) := [some (.inl (fun _ => rx_q_icmp .gt 75 35)), none, none, some (.inl (fun _ => rx_q_loadA 0 1)), some (.inl (fun _ => rx_q_get (0, 8, 0, false, false))), none, none, some (.inl (fun _ => rx_q_if .ge 75 42)), none, none, some (.inl (fun _ => rx_q_loadA 0 1)), some (.inl (fun _ => rx_q_loadA 0 1)), some (.inl (fun _ => rx_q_get (0, 5, 3, true, false))), none, none, some (.inl (fun _ => rx_q_load 0 1 1))]
noncomputable def rxE52_3 : List (Option rx_Ent) := [some (.inl (fun _ => rx_h_push (rx_n 7) 2)), none, some (.inl (fun _ => rx_h_bin 2)), some (.inl (fun _ => rx_q_load 0 2 1)), some (.inl (fun _ => rx_h_bin 0)), some (.inl (fun _ => rx_q_ald (rx_isTc 0))), some (.inl (fun _ => rx_q_put (0, 9, 0, false, false) false)), none, none, some (.inl (fun _ => rx_q_loadA 0 1)), some (.inl (fun _ => rx_q_get (0, 9, 0, false, false))), none, none, some (.inl (fun _ => rx_q_if .le 69 64))]
noncomputable def rxE52_4 : List (Option rx_Ent) := [some (.inl (fun _ => rx_q_loadA 0 1)), some (.inl (fun _ => rx_q_load 0 2 1)), some (.inl (fun _ => rx_q_put (0, 8, 0, false, false) false)), none, none, some (.inl (fun _ => rx_h_iinc 3 2 1)), none, none, some (.inl (fun _ => rx_q_goto 29)), none, none, some (.inl (fun _ => rx_q_loadA 0 1)), some (.inl (fun _ => rx_q_get (0, 8, 0, false, false))), none, none, some (.inl (fun _ => rx_q_if .ge 83 82))]
noncomputable def rxE52_5 : List (Option rx_Ent) := [none, none, none, some (.inl (fun _ => rx_q_loadA 0 1)), some (.inl (fun _ => rx_q_get (0, 6, 3, true, false))), none, none, some (.inl (fun _ => rx_h_push (rx_n 0) 1)), some (.inl (rx_q_fill)), none, none, some (.inl (fun _ => rx_q_loadA 0 1)), some (.inl (fun _ => rx_h_push (rx_n 0) 1)), some (.inl (fun _ => rx_h_push (rx_n 0) 1)), some (.inr (.inr (24, rxM24, rx_q_vcall rxM52 rxM24 2 0)))]
noncomputable def rxE52_6 : List (Option rx_Ent) := [none, some (.inl (fun _ => rx_h_pop)), some (.inr (.inl (rx_q_retv 0 0)))]
noncomputable def rxE52 : List (List (Option rx_Ent)) := [rxE52_0, rxE52_1, rxE52_2, rxE52_3, rxE52_4, rxE52_5, rxE52_6]
noncomputable def rxE53_0 : List (Option rx_Ent) := [some (.inl (fun _ => rx_q_load 0 1 1)), some (.inl (fun _ => rx_q_if .lt 21 4)), none, none, some (.inl (fun _ => rx_q_load 0 1 1)), some (.inl (fun _ => rx_q_loadA 0 1)), some (.inl (fun _ => rx_q_get (0, 0, 0, false, false))), none, none, some (.inl (fun _ => rx_q_icmp .ge 21 12))]
noncomputable def rxE53_1 : List (Option rx_Ent) := [none, none, none, none, none, some (.inl (fun _ => rx_h_push (rx_n (-1)) 1)), some (.inr (.inl (rx_q_reti 0 0)))]
noncomputable def rxE53 : List (List (Option rx_Ent)) := [rxE53_0, rxE53_1]
noncomputable def rxE54_0 : List (Option rx_Ent) := [some (.inl (fun _ => rx_q_loadA 0 1)), some (.inl (fun _ => rx_q_get (2, 0, 0, false, false))), none, none, some (.inl (fun _ => rx_h_push (rx_n 12) 2)), none, some (.inl (fun _ => rx_q_icmp .lt 11 9)), none, none, none, none, some (.inl (fun _ => rx_q_loadA 0 1)), some (.inl (fun _ => rx_q_get (2, 1, 3, true, false))), none, none, some (.inl (fun _ => rx_q_loadA 0 1))]
noncomputable def rxE54_1 : List (Option rx_Ent) := [some (.inl (fun _ => rx_q_get (2, 0, 0, false, false))), none, none, some (.inl (fun _ => rx_q_load 0 1 1)), some (.inl (fun _ => rx_q_ast (rx_isTc 0) (fun I _ _ v => rx_fit I 0 v))), some (.inl (fun _ => rx_q_loadA 0 1)), some (.inl (fun _ => rx_q_get (2, 2, 3, true, false))), none, none, some (.inl (fun _ => rx_q_loadA 0 1)), some (.inl (fun _ => rx_q_get (2, 0, 0, false, false))), none, none, some (.inl (fun _ => rx_q_load 0 2 1)), some (.inl (fun _ => rx_q_ast (rx_isTc 0) (fun I _ _ v => rx_fit I 0 v))), some (.inl (fun _ => rx_q_loadA 0 1))]
noncomputable def rxE54_2 : List (Option rx_Ent) := [some (.inl (fun _ => rx_q_get (2, 3, 3, true, false))), none, none, some (.inl (fun _ => rx_q_loadA 0 1)), some (.inl (fun _ => rx_q_get (2, 0, 0, false, false))), none, none, some (.inl (fun _ => rx_q_load 0 3 1)), some (.inl (fun _ => rx_q_ast (rx_isTc 0) (fun I _ _ v => rx_fit I 0 v))), some (.inl (fun _ => rx_q_loadA 0 1)), some (.inl (fun _ => rx_h_dup)), some (.inl (fun _ => rx_q_get (2, 0, 0, false, false))), none, none, some (.inl (fun _ => rx_h_push (rx_n 1) 1)), some (.inl (fun _ => rx_h_bin 0))]
noncomputable def rxE54_3 : List (Option rx_Ent) := [some (.inl (fun _ => rx_q_put (2, 0, 0, false, false) false)), none, none, some (.inl (fun _ => rx_q_loadA 0 1)), some (.inl (fun _ => rx_q_get (2, 0, 0, false, false))), none, none, some (.inr (.inl (rx_q_reti 0 0)))]
noncomputable def rxE54 : List (List (Option rx_Ent)) := [rxE54_0, rxE54_1, rxE54_2, rxE54_3]
noncomputable def rxE55_0 : List (Option rx_Ent) := [some (.inl (fun _ => rx_q_loadA 0 1)), some (.inl (fun _ => rx_h_push (rx_n 0) 1)), some (.inl (fun _ => rx_q_put (4, 0, 0, false, false) false)), none, none, some (.inl (fun _ => rx_h_push (rx_n 0) 1)), some (.inl (fun _ => rx_h_istore 4 2 1)), some (.inl (fun _ => rx_q_load 0 2 1)), some (.inl (fun _ => rx_h_push (rx_n 4) 1)), some (.inl (fun _ => rx_q_icmp .ge 129 12)), none, none, some (.inl (fun _ => rx_q_loadA 0 1)), some (.inl (fun _ => rx_q_get (4, 4, 3, true, false)))]
noncomputable def rxE55_1 : List (Option rx_Ent) := [some (.inl (fun _ => rx_q_load 0 2 1)), some (.inl (fun _ => rx_h_push (rx_n (-1)) 1)), some (.inl (fun _ => rx_q_ast (rx_isTc 0) (fun I _ _ v => rx_fit I 0 v))), some (.inl (fun _ => rx_h_push (rx_n 0) 1)), some (.inl (fun _ => rx_h_istore 4 3 1)), some (.inl (fun _ => rx_q_load 0 3 1)), some (.inl (fun _ => rx_q_loadA 1 1)), some (.inl (fun _ => rx_q_get (2, 0, 0, false, true))), none, none, some (.inl (fun _ => rx_q_icmp .ge 123 29))]
noncomputable def rxE55_7 : List (Option rx_Ent) := [none, none, none, none, none, none, none, none, none, none, none, some (.inl (fun _ => rx_h_iinc 4 2 1)), none, none, some (.inl (fun _ => rx_q_goto 7))]
noncomputable def rxE55_8 : List (Option rx_Ent) := [none, some (.inr (.inl (rx_q_retv 0 0)))]
noncomputable def rxE55 : List (List (Option rx_Ent)) := [rxE55_0, rxE55_1, [], [], [], [], [], rxE55_7, rxE55_8]
noncomputable def rxE56_0 : List (Option rx_Ent) := [some (.inl (fun _ => rx_h_push (rx_n 1) 1)), some (.inl (fun _ => rx_h_istore 2 1 1)), some (.inl (fun _ => rx_q_load 0 1 1)), some (.inl (fun _ => rx_h_push (rx_n 3) 1)), some (.inl (fun _ => rx_q_icmp .gt 30 7)), none, none, some (.inl (fun _ => rx_q_loadA 0 1)), some (.inl (fun _ => rx_q_load 0 1 1)), some (.inl (fun _ => rx_h_push (rx_n (-1)) 1)), some (.inl (fun _ => rx_h_push (rx_n (-1)) 1)), some (.inl (fun _ => rx_h_push (rx_n 1) 1)), some (.inr (.inr (26, rxM26, rx_q_vcall rxM56 rxM26 4 4))), none, none, some (.inl (fun _ => rx_q_loadA 0 1))]
noncomputable def rxE56_1 : List (Option rx_Ent) := [some (.inl (fun _ => rx_q_get (4, 9, 0, false, false))), none, none, some (.inl (fun _ => rx_q_if .le 24 22)), none, none, some (.inl (fun _ => rx_q_load 0 1 1)), some (.inr (.inl (rx_q_reti 0 0)))]
noncomputable def rxE56 : List (List (Option rx_Ent)) := [rxE56_0, rxE56_1]
noncomputable def rxE57_0 : List (Option rx_Ent) := [some (.inl (fun _ => rx_q_loadA 0 1)), some (.inl (fun _ => rx_q_load 0 1 1)), some (.inl (fun _ => rx_h_push (rx_n (-1)) 1)), some (.inl (fun _ => rx_h_push (rx_n (-1)) 1)), some (.inl (fun _ => rx_h_push (rx_n 0) 1)), some (.inr (.inr (26, rxM26, rx_q_vcall rxM57 rxM26 4 4))), none, none, some (.inl (fun _ => rx_q_loadA 0 1)), some (.inl (fun _ => rx_q_get (4, 9, 0, false, false))), none, none, some (.inr (.inl (rx_q_reti 0 0)))]
noncomputable def rxE57 : List (List (Option rx_Ent)) := [rxE57_0]
noncomputable def rxE58_0 : List (Option rx_Ent) := [some (.inl (fun _ => rx_q_loadA 0 1)), some (.inl (fun _ => rx_q_load 0 1 1)), some (.inl (fun _ => rx_q_load 0 2 1)), some (.inl (fun _ => rx_q_load 0 3 1)), some (.inl (fun _ => rx_h_push (rx_n 0) 1)), some (.inr (.inr (26, rxM26, rx_q_vcall rxM58 rxM26 4 4))), none, none, some (.inl (fun _ => rx_q_loadA 0 1)), some (.inl (fun _ => rx_q_get (4, 10, 0, false, false))), none, none, some (.inr (.inl (rx_q_reti 0 0)))]
noncomputable def rxE58 : List (List (Option rx_Ent)) := [rxE58_0]
noncomputable def rxE59_0 : List (Option rx_Ent) := [some (.inl (fun _ => rx_q_loadA 0 1)), some (.inl (fun _ => rx_q_loadA 1 1)), some (.inl (fun _ => rx_q_get (10, 0, 0, false, false))), none, none, some (.inl (fun _ => rx_q_put (10, 0, 0, false, false) false)), none, none, some (.inl (fun _ => rx_q_loadA 1 1)), some (.inl (fun _ => rx_q_get (10, 1, 3, true, false))), none, none, some (.inl (fun _ => rx_h_push (rx_n 0) 1)), some (.inl (fun _ => rx_q_loadA 0 1)), some (.inl (fun _ => rx_q_get (10, 1, 3, true, false)))]
noncomputable def rxE59_1 : List (Option rx_Ent) := [none, some (.inl (fun _ => rx_h_push (rx_n 0) 1)), some (.inl (fun _ => rx_h_push (rx_n 6) 2)), none, some (.inl (rx_q_copy)), none, none, some (.inl (fun _ => rx_q_loadA 1 1)), some (.inl (fun _ => rx_q_get (10, 2, 3, true, false))), none, none, some (.inl (fun _ => rx_h_push (rx_n 0) 1)), some (.inl (fun _ => rx_q_loadA 0 1)), some (.inl (fun _ => rx_q_get (10, 2, 3, true, false)))]
noncomputable def rxE59_2 : List (Option rx_Ent) := [some (.inl (fun _ => rx_h_push (rx_n 0) 1)), some (.inl (fun _ => rx_h_push (rx_n 6) 2)), none, some (.inl (rx_q_copy)), none, none, some (.inl (fun _ => rx_h_push (rx_n 0) 1)), some (.inl (fun _ => rx_h_istore 3 2 1)), some (.inl (fun _ => rx_q_load 0 2 1)), some (.inl (fun _ => rx_h_push (rx_n 6) 2)), none, some (.inl (fun _ => rx_q_icmp .ge 67 46)), none, none, some (.inl (fun _ => rx_q_loadA 0 1)), some (.inl (fun _ => rx_q_get (10, 3, 3, true, false)))]
noncomputable def rxE59_3 : List (Option rx_Ent) := [none, none, some (.inl (fun _ => rx_q_load 0 2 1)), some (.inl (fun _ => rx_q_ald rx_isRef)), some (.inl (fun _ => rx_q_loadA 1 1)), some (.inl (fun _ => rx_q_get (10, 3, 3, true, false))), none, none, some (.inl (fun _ => rx_q_load 0 2 1)), some (.inl (fun _ => rx_q_ald rx_isRef)), some (.inr (.inr (36, rxM36, rx_q_vcall rxM59 rxM36 1 9))), none, none, some (.inl (fun _ => rx_h_iinc 3 2 1))]
noncomputable def rxE59_4 : List (Option rx_Ent) := [some (.inl (fun _ => rx_q_goto 40)), none, none, some (.inl (fun _ => rx_q_loadA 0 1)), some (.inl (fun _ => rx_q_get (10, 4, 3, true, false))), none, none, some (.inl (fun _ => rx_q_loadA 1 1)), some (.inl (fun _ => rx_q_get (10, 4, 3, true, false))), none, none, some (.inr (.inr (37, rxM37, rx_q_vcall rxM59 rxM37 1 5))), none, none, some (.inl (fun _ => rx_q_loadA 0 1)), some (.inl (fun _ => rx_q_loadA 1 1))]
noncomputable def rxE59_5 : List (Option rx_Ent) := [some (.inl (fun _ => rx_q_get (10, 5, 0, false, false))), none, none, some (.inl (fun _ => rx_q_put (10, 5, 0, false, false) false)), none, none, some (.inl (fun _ => rx_q_loadA 1 1)), some (.inl (fun _ => rx_q_get (10, 6, 3, true, false))), none, none, some (.inl (fun _ => rx_h_push (rx_n 0) 1)), some (.inl (fun _ => rx_q_loadA 0 1)), some (.inl (fun _ => rx_q_get (10, 6, 3, true, false))), none, none, some (.inl (fun _ => rx_h_push (rx_n 0) 1))]
noncomputable def rxE59_6 : List (Option rx_Ent) := [some (.inl (fun _ => rx_h_push (rx_n 12) 2)), none, some (.inl (rx_q_copy)), none, none, some (.inl (fun _ => rx_q_loadA 1 1)), some (.inl (fun _ => rx_q_get (10, 7, 3, true, false))), none, none, some (.inl (fun _ => rx_h_push (rx_n 0) 1)), some (.inl (fun _ => rx_q_loadA 0 1)), some (.inl (fun _ => rx_q_get (10, 7, 3, true, false))), none, none, some (.inl (fun _ => rx_h_push (rx_n 0) 1)), some (.inl (fun _ => rx_h_push (rx_n 12) 2))]
noncomputable def rxE59_7 : List (Option rx_Ent) := [none, some (.inl (rx_q_copy)), none, none, some (.inl (fun _ => rx_q_loadA 1 1)), some (.inl (fun _ => rx_q_get (10, 8, 3, true, false))), none, none, some (.inl (fun _ => rx_h_push (rx_n 0) 1)), some (.inl (fun _ => rx_q_loadA 0 1)), some (.inl (fun _ => rx_q_get (10, 8, 3, true, false))), none, none, some (.inl (fun _ => rx_h_push (rx_n 0) 1)), some (.inl (fun _ => rx_h_push (rx_n 12) 2))]
noncomputable def rxE59_8 : List (Option rx_Ent) := [some (.inl (rx_q_copy)), none, none, some (.inl (fun _ => rx_h_push (rx_n 0) 1)), some (.inl (fun _ => rx_h_istore 3 2 1)), some (.inl (fun _ => rx_q_load 0 2 1)), some (.inl (fun _ => rx_h_push (rx_n 12) 2)), none, some (.inl (fun _ => rx_q_icmp .ge 160 139)), none, none, some (.inl (fun _ => rx_q_loadA 0 1)), some (.inl (fun _ => rx_q_get (10, 9, 3, true, false))), none, none, some (.inl (fun _ => rx_q_load 0 2 1))]
noncomputable def rxE59_9 : List (Option rx_Ent) := [some (.inl (fun _ => rx_q_ald rx_isRef)), some (.inl (fun _ => rx_q_loadA 1 1)), some (.inl (fun _ => rx_q_get (10, 9, 3, true, false))), none, none, some (.inl (fun _ => rx_q_load 0 2 1)), some (.inl (fun _ => rx_q_ald rx_isRef)), some (.inr (.inr (36, rxM36, rx_q_vcall rxM59 rxM36 1 9))), none, none, some (.inl (fun _ => rx_h_iinc 3 2 1)), none, none, some (.inl (fun _ => rx_q_goto 133))]
noncomputable def rxE59_10 : List (Option rx_Ent) := [some (.inl (fun _ => rx_q_loadA 0 1)), some (.inl (fun _ => rx_q_loadA 1 1)), some (.inl (fun _ => rx_q_get (10, 10, 0, false, false))), none, none, some (.inl (fun _ => rx_q_put (10, 10, 0, false, false) false)), none, none, some (.inl (fun _ => rx_q_loadA 1 1)), some (.inl (fun _ => rx_q_get (10, 11, 3, true, false))), none, none, some (.inl (fun _ => rx_h_push (rx_n 0) 1)), some (.inl (fun _ => rx_q_loadA 0 1)), some (.inl (fun _ => rx_q_get (10, 11, 3, true, false)))]
noncomputable def rxE59_11 : List (Option rx_Ent) := [none, some (.inl (fun _ => rx_h_push (rx_n 0) 1)), some (.inl (fun _ => rx_h_push (rx_n 12) 2)), none, some (.inl (rx_q_copy)), none, none, some (.inl (fun _ => rx_q_loadA 0 1)), some (.inl (fun _ => rx_q_get (10, 12, 3, true, false))), none, none, some (.inl (fun _ => rx_q_loadA 1 1)), some (.inl (fun _ => rx_q_get (10, 12, 3, true, false))), none, none, some (.inr (.inr (38, rxM38, rx_q_vcall rxM59 rxM38 1 2)))]
noncomputable def rxE59_12 : List (Option rx_Ent) := [none, none, some (.inl (fun _ => rx_q_loadA 1 1)), some (.inl (fun _ => rx_q_get (10, 13, 3, true, false))), none, none, some (.inl (fun _ => rx_h_push (rx_n 0) 1)), some (.inl (fun _ => rx_q_loadA 0 1)), some (.inl (fun _ => rx_q_get (10, 13, 3, true, false))), none, none, some (.inl (fun _ => rx_h_push (rx_n 0) 1)), some (.inl (fun _ => rx_h_push (rx_n 3) 1)), some (.inl (rx_q_copy))]
noncomputable def rxE59_13 : List (Option rx_Ent) := [some (.inl (fun _ => rx_q_loadA 0 1)), some (.inl (fun _ => rx_q_loadA 1 1)), some (.inl (fun _ => rx_q_get (10, 14, 0, false, false))), none, none, some (.inl (fun _ => rx_q_put (10, 14, 0, false, false) false)), none, none, some (.inl (fun _ => rx_q_loadA 0 1)), some (.inl (fun _ => rx_q_loadA 1 1)), some (.inl (fun _ => rx_q_get (10, 15, 0, false, false))), none, none, some (.inl (fun _ => rx_q_put (10, 15, 0, false, false) false))]
noncomputable def rxE59_14 : List (Option rx_Ent) := [some (.inl (fun _ => rx_h_push (rx_n 0) 1)), some (.inl (fun _ => rx_h_istore 3 2 1)), some (.inl (fun _ => rx_q_load 0 2 1)), some (.inl (fun _ => rx_q_loadA 0 1)), some (.inl (fun _ => rx_q_get (10, 14, 0, false, false))), none, none, some (.inl (fun _ => rx_q_icmp .ge 261 234))]
noncomputable def rxE59_16 : List (Option rx_Ent) := [none, none, none, none, none, some (.inr (.inl (rx_q_retv 0 0)))]
noncomputable def rxE59 : List (List (Option rx_Ent)) := [rxE59_0, rxE59_1, rxE59_2, rxE59_3, rxE59_4, rxE59_5, rxE59_6, rxE59_7, rxE59_8, rxE59_9, rxE59_10, rxE59_11, rxE59_12, rxE59_13, rxE59_14, [], rxE59_16]
noncomputable def rxE60_0 : List (Option rx_Ent) := [some (.inl (fun _ => rx_q_loadA 0 1)), some (.inl (fun _ => rx_h_push (rx_n 0) 1)), some (.inl (fun _ => rx_q_put (12, 0, 0, false, false) false)), none, none, some (.inl (fun _ => rx_q_loadA 0 1)), some (.inl (fun _ => rx_q_load 0 1 1)), some (.inr (.inr (158, rxM158, rx_q_vcall rxM60 rxM158 1 12))), none, none, some (.inl (fun _ => rx_q_if .eq 21 13))]
noncomputable def rxE60_1 : List (Option rx_Ent) := [none, none, none, none, none, some (.inl (fun _ => rx_q_loadA 0 1)), some (.inl (fun _ => rx_h_push (rx_n (-2)) 2)), none, some (.inr (.inr (156, rxM156, rx_q_vcall rxM60 rxM156 1 12))), none, none, some (.inr (.inl (rx_q_reti 0 0)))]
noncomputable def rxE60 : List (List (Option rx_Ent)) := [rxE60_0, rxE60_1]
noncomputable def rxE61_0 : List (Option rx_Ent) := [some (.inl (fun _ => rx_q_load 0 3 1)), some (.inl (fun _ => rx_h_push (rx_n (-1)) 1)), some (.inl (fun _ => rx_q_icmp .ge 11 5)), none, none, some (.inl (fun _ => rx_q_loadA 0 1)), some (.inl (fun _ => rx_h_push (rx_n (-1)) 1)), some (.inr (.inr (39, rxM39, rx_q_vcall rxM61 rxM39 1 11))), none, none, some (.inr (.inl (rx_q_reti 0 0))), some (.inl (fun _ => rx_q_loadA 0 1)), some (.inl (fun _ => rx_q_get (11, 0, 3, true, false))), none, none, some (.inl (fun _ => rx_q_load 0 1 1))]
noncomputable def rxE61_1 : List (Option rx_Ent) := [some (.inr (.inr (49, rxM49, rx_q_vcall rxM61 rxM49 1 10))), none, none, some (.inl (fun _ => rx_q_if .eq 36 22))]
noncomputable def rxE61_2 : List (Option rx_Ent) := [none, none, none, none, some (.inl (fun _ => rx_q_loadA 0 1)), some (.inl (fun _ => rx_h_push (rx_n (-2)) 2)), none, some (.inr (.inr (39, rxM39, rx_q_vcall rxM61 rxM39 1 11))), none, none, some (.inr (.inl (rx_q_reti 0 0)))]
noncomputable def rxE61 : List (List (Option rx_Ent)) := [rxE61_0, rxE61_1, rxE61_2]
noncomputable def rxE62_0 : List (Option rx_Ent) := [some (.inl (fun _ => rx_q_loadA 0 1)), some (.inl (fun _ => rx_h_push (rx_n 0) 1)), some (.inl (fun _ => rx_q_put (12, 0, 0, false, false) false)), none, none, some (.inl (fun _ => rx_q_load 0 3 1)), some (.inl (fun _ => rx_h_push (rx_n (-1)) 1)), some (.inl (fun _ => rx_q_icmp .ge 16 10)), none, none, some (.inl (fun _ => rx_q_loadA 0 1)), some (.inl (fun _ => rx_h_push (rx_n (-1)) 1)), some (.inr (.inr (156, rxM156, rx_q_vcall rxM62 rxM156 1 12))), none, none, some (.inr (.inl (rx_q_reti 0 0)))]
noncomputable def rxE62_1 : List (Option rx_Ent) := [some (.inl (fun _ => rx_q_loadA 0 1)), some (.inl (fun _ => rx_q_load 0 1 1)), some (.inr (.inr (168, rxM168, rx_q_vcall rxM62 rxM168 1 12))), none, none, some (.inl (fun _ => rx_q_if .eq 32 24))]
noncomputable def rxE62_2 : List (Option rx_Ent) := [some (.inl (fun _ => rx_q_loadA 0 1)), some (.inl (fun _ => rx_h_push (rx_n (-2)) 2)), none, some (.inr (.inr (156, rxM156, rx_q_vcall rxM62 rxM156 1 12))), none, none, some (.inr (.inl (rx_q_reti 0 0)))]
noncomputable def rxE62 : List (List (Option rx_Ent)) := [rxE62_0, rxE62_1, rxE62_2]
noncomputable def rxE63_0 : List (Option rx_Ent) := [some (.inl (fun _ => rx_q_loadA 0 1)), some (.inl (fun _ => rx_q_get (11, 0, 3, true, false))), none, none, some (.inl (fun _ => rx_q_get (10, 5, 0, false, true))), none, none, some (.inl (fun _ => rx_q_if .gt 17 10)), none, none, some (.inl (fun _ => rx_q_loadA 0 1)), some (.inl (fun _ => rx_h_push (rx_n (-3)) 2)), none, some (.inr (.inr (39, rxM39, rx_q_vcall rxM63 rxM39 1 11)))]
noncomputable def rxE63_1 : List (Option rx_Ent) := [some (.inr (.inl (rx_q_reti 0 0)))]
noncomputable def rxE63 : List (List (Option rx_Ent)) := [rxE63_0, rxE63_1]
noncomputable def rxE64_0 : List (Option rx_Ent) := [some (.inl (fun _ => rx_q_loadA 0 1)), some (.inl (fun _ => rx_h_push (rx_n 0) 1)), some (.inl (fun _ => rx_q_put (12, 0, 0, false, false) false)), none, none, some (.inl (fun _ => rx_q_loadA 0 1)), some (.inl (fun _ => rx_q_get (12, 3, 3, true, false))), none, none, some (.inl (fun _ => rx_h_push (rx_n 2) 1)), some (.inl (fun _ => rx_q_ald (rx_isTc 0))), some (.inl (fun _ => rx_q_if .ne 21 14)), none, none, some (.inl (fun _ => rx_q_loadA 0 1)), some (.inl (fun _ => rx_h_push (rx_n (-3)) 2))]
noncomputable def rxE64_1 : List (Option rx_Ent) := [none, some (.inr (.inr (156, rxM156, rx_q_vcall rxM64 rxM156 1 12))), none, none, some (.inr (.inl (rx_q_reti 0 0)))]
noncomputable def rxE64 : List (List (Option rx_Ent)) := [rxE64_0, rxE64_1]
noncomputable def rxE65_0 : List (Option rx_Ent) := [some (.inl (fun _ => rx_q_loadA 0 1)), some (.inl (fun _ => rx_q_get (11, 0, 3, true, false))), none, none, some (.inl (fun _ => rx_q_load 0 1 1)), some (.inr (.inr (49, rxM49, rx_q_vcall rxM65 rxM49 1 10))), none, none, some (.inl (fun _ => rx_q_if .ne 13 11)), none, none, some (.inl (fun _ => rx_h_push (rx_n (-1)) 1)), some (.inr (.inl (rx_q_reti 0 0)))]
noncomputable def rxE65 : List (List (Option rx_Ent)) := [rxE65_0]
noncomputable def rxE66_0 : List (Option rx_Ent) := [some (.inl (fun _ => rx_q_loadA 0 1)), some (.inl (fun _ => rx_h_push (rx_n 0) 1)), some (.inl (fun _ => rx_q_put (12, 0, 0, false, false) false)), none, none, some (.inl (fun _ => rx_q_loadA 0 1)), some (.inl (fun _ => rx_q_load 0 1 1)), some (.inr (.inr (168, rxM168, rx_q_vcall rxM66 rxM168 1 12))), none, none, some (.inl (fun _ => rx_q_if .eq 25 13))]
noncomputable def rxE66_1 : List (Option rx_Ent) := [none, none, none, none, none, none, none, none, none, some (.inl (fun _ => rx_h_push (rx_n (-1)) 1)), some (.inr (.inl (rx_q_reti 0 0)))]
noncomputable def rxE66 : List (List (Option rx_Ent)) := [rxE66_0, rxE66_1]
noncomputable def rxE67_0 : List (Option rx_Ent) := [some (.inl (fun _ => rx_q_loadA 0 1)), some (.inl (fun _ => rx_q_get (11, 0, 3, true, false))), none, none, some (.inl (fun _ => rx_q_load 0 1 1)), some (.inr (.inr (49, rxM49, rx_q_vcall rxM67 rxM49 1 10))), none, none, some (.inl (fun _ => rx_q_if .ne 13 11)), none, none, some (.inl (fun _ => rx_h_push (rx_n (-1)) 1)), some (.inr (.inl (rx_q_reti 0 0)))]
noncomputable def rxE67 : List (List (Option rx_Ent)) := [rxE67_0]
noncomputable def rxE68_0 : List (Option rx_Ent) := [some (.inl (fun _ => rx_q_loadA 0 1)), some (.inl (fun _ => rx_h_push (rx_n 0) 1)), some (.inl (fun _ => rx_q_put (12, 0, 0, false, false) false)), none, none, some (.inl (fun _ => rx_q_loadA 0 1)), some (.inl (fun _ => rx_q_load 0 1 1)), some (.inr (.inr (168, rxM168, rx_q_vcall rxM68 rxM168 1 12))), none, none, some (.inl (fun _ => rx_q_if .eq 51 13))]
noncomputable def rxE68_3 : List (Option rx_Ent) := [none, none, none, some (.inl (fun _ => rx_h_push (rx_n (-1)) 1)), some (.inr (.inl (rx_q_reti 0 0)))]
noncomputable def rxE68 : List (List (Option rx_Ent)) := [rxE68_0, [], [], rxE68_3]
noncomputable def rxE69_0 : List (Option rx_Ent) := [some (.inl (fun _ => rx_q_loadA 0 1)), some (.inl (fun _ => rx_q_get (11, 0, 3, true, false))), none, none, some (.inl (fun _ => rx_q_load 0 1 1)), some (.inr (.inr (49, rxM49, rx_q_vcall rxM69 rxM49 1 10))), none, none, some (.inl (fun _ => rx_q_if .eq 26 11))]
noncomputable def rxE69_1 : List (Option rx_Ent) := [none, none, none, none, none, none, none, none, none, none, some (.inl (fun _ => rx_h_push (rx_n (-1)) 1)), some (.inr (.inl (rx_q_reti 0 0)))]
noncomputable def rxE69 : List (List (Option rx_Ent)) := [rxE69_0, rxE69_1]
noncomputable def rxE70_0 : List (Option rx_Ent) := [some (.inl (fun _ => rx_q_loadA 0 1)), some (.inl (fun _ => rx_h_push (rx_n 0) 1)), some (.inl (fun _ => rx_q_put (12, 0, 0, false, false) false)), none, none, some (.inl (fun _ => rx_q_loadA 0 1)), some (.inl (fun _ => rx_q_load 0 1 1)), some (.inr (.inr (168, rxM168, rx_q_vcall rxM70 rxM168 1 12))), none, none, some (.inl (fun _ => rx_q_if .eq 31 13))]
noncomputable def rxE70_1 : List (Option rx_Ent) := [none, none, none, none, none, none, none, none, none, none, none, none, none, none, none, some (.inl (fun _ => rx_h_push (rx_n (-1)) 1))]
noncomputable def rxE70_2 : List (Option rx_Ent) := [some (.inr (.inl (rx_q_reti 0 0)))]
noncomputable def rxE70 : List (List (Option rx_Ent)) := [rxE70_0, rxE70_1, rxE70_2]
noncomputable def rxE71_0 : List (Option rx_Ent) := [some (.inl (fun _ => rx_q_loadA 0 1)), some (.inl (fun _ => rx_q_get (11, 0, 3, true, false))), none, none, some (.inl (fun _ => rx_q_load 0 1 1)), some (.inr (.inr (49, rxM49, rx_q_vcall rxM71 rxM49 1 10))), none, none, some (.inl (fun _ => rx_q_if .ne 13 11)), none, none, some (.inl (fun _ => rx_h_push (rx_n (-1)) 1)), some (.inr (.inl (rx_q_reti 0 0)))]
noncomputable def rxE71 : List (List (Option rx_Ent)) := [rxE71_0]
noncomputable def rxE72_0 : List (Option rx_Ent) := [some (.inl (fun _ => rx_q_loadA 0 1)), some (.inl (fun _ => rx_h_push (rx_n 0) 1)), some (.inl (fun _ => rx_q_put (12, 0, 0, false, false) false)), none, none, some (.inl (fun _ => rx_q_loadA 0 1)), some (.inl (fun _ => rx_q_load 0 1 1)), some (.inr (.inr (168, rxM168, rx_q_vcall rxM72 rxM168 1 12))), none, none, some (.inl (fun _ => rx_q_if .ne 15 13)), none, none, some (.inl (fun _ => rx_h_push (rx_n (-1)) 1)), some (.inr (.inl (rx_q_reti 0 0)))]
noncomputable def rxE72 : List (List (Option rx_Ent)) := [rxE72_0]
noncomputable def rxE73_0 : List (Option rx_Ent) := [some (.inl (fun _ => rx_q_loadA 0 1)), some (.inl (fun _ => rx_q_get (11, 0, 3, true, false))), none, none, some (.inl (fun _ => rx_q_load 0 1 1)), some (.inr (.inr (49, rxM49, rx_q_vcall rxM73 rxM49 1 10))), none, none, some (.inl (fun _ => rx_q_if .eq 22 11))]
noncomputable def rxE73_1 : List (Option rx_Ent) := [none, none, none, none, none, none, some (.inl (fun _ => rx_h_push (rx_n (-1)) 1)), some (.inr (.inl (rx_q_reti 0 0)))]
noncomputable def rxE73 : List (List (Option rx_Ent)) := [rxE73_0, rxE73_1]
noncomputable def rxE74_0 : List (Option rx_Ent) := [some (.inl (fun _ => rx_q_load 0 1 1)), some (.inl (fun _ => rx_q_if .lt 21 4)), none, none, some (.inl (fun _ => rx_q_load 0 1 1)), some (.inl (fun _ => rx_h_push (rx_n 24) 2)), none, some (.inl (fun _ => rx_q_icmp .ge 21 10)), none, none, some (.inl (fun _ => rx_q_load 0 2 1)), some (.inl (fun _ => rx_q_load 0 1 1)), some (.inl (fun _ => rx_q_icmp .le 21 15)), none, none, some (.inl (fun _ => rx_q_load 0 2 1))]
noncomputable def rxE74_1 : List (Option rx_Ent) := [some (.inl (fun _ => rx_h_push (rx_n 24) 2)), none, some (.inl (fun _ => rx_q_icmp .le 27 21)), none, none, some (.inl (fun _ => rx_q_loadA 0 1)), some (.inl (fun _ => rx_h_push (rx_n (-1)) 1)), some (.inr (.inr (39, rxM39, rx_q_vcall rxM74 rxM39 1 11))), none, none, some (.inr (.inl (rx_q_reti 0 0))), some (.inl (fun _ => rx_q_loadA 0 1)), some (.inl (fun _ => rx_q_get (11, 0, 3, true, false))), none, none, some (.inl (fun _ => rx_q_get (10, 0, 0, false, true)))]
noncomputable def rxE74_2 : List (Option rx_Ent) := [none, none, some (.inl (fun _ => rx_h_push (rx_n 6) 2)), none, some (.inl (fun _ => rx_q_icmp .lt 46 39)), none, none, none, none, none, none, none, none, none, some (.inl (fun _ => rx_q_loadA 0 1)), some (.inl (fun _ => rx_q_loadA 0 1))]
noncomputable def rxE74_3 : List (Option rx_Ent) := [some (.inl (fun _ => rx_q_get (11, 0, 3, true, false))), none, none, some (.inl (fun _ => rx_q_load 0 1 1)), some (.inl (fun _ => rx_q_load 0 2 1)), some (.inr (.inr (40, rxM40, rx_q_vcall rxM74 rxM40 2 10))), none, none, some (.inr (.inr (41, rxM41, rx_q_vcall rxM74 rxM41 1 11))), none, none, some (.inr (.inl (rx_q_reti 0 0)))]
noncomputable def rxE74 : List (List (Option rx_Ent)) := [rxE74_0, rxE74_1, rxE74_2, rxE74_3]
noncomputable def rxE75_0 : List (Option rx_Ent) := [some (.inl (fun _ => rx_q_loadA 0 1)), some (.inl (fun _ => rx_h_push (rx_n 0) 1)), some (.inl (fun _ => rx_q_put (12, 0, 0, false, false) false)), none, none, some (.inl (fun _ => rx_q_loadA 0 1)), some (.inl (fun _ => rx_q_load 0 1 1)), some (.inr (.inr (168, rxM168, rx_q_vcall rxM75 rxM168 1 12))), none, none, some (.inl (fun _ => rx_q_if .eq 35 13))]
noncomputable def rxE75_2 : List (Option rx_Ent) := [none, none, none, some (.inl (fun _ => rx_h_push (rx_n (-1)) 1)), some (.inr (.inl (rx_q_reti 0 0)))]
noncomputable def rxE75 : List (List (Option rx_Ent)) := [rxE75_0, [], rxE75_2]
noncomputable def rxE76_0 : List (Option rx_Ent) := [some (.inl (fun _ => rx_q_loadA 0 1)), some (.inl (fun _ => rx_q_get (11, 0, 3, true, false))), none, none, some (.inl (fun _ => rx_q_load 0 1 1)), some (.inr (.inr (49, rxM49, rx_q_vcall rxM76 rxM49 1 10))), none, none, some (.inl (fun _ => rx_q_if .ne 13 11)), none, none, some (.inl (fun _ => rx_h_push (rx_n (-1)) 1)), some (.inr (.inl (rx_q_reti 0 0)))]
noncomputable def rxE76 : List (List (Option rx_Ent)) := [rxE76_0]
noncomputable def rxE77_0 : List (Option rx_Ent) := [some (.inl (fun _ => rx_q_loadA 0 1)), some (.inl (fun _ => rx_h_push (rx_n 0) 1)), some (.inl (fun _ => rx_q_put (12, 0, 0, false, false) false)), none, none, some (.inl (fun _ => rx_q_loadA 0 1)), some (.inl (fun _ => rx_q_load 0 1 1)), some (.inr (.inr (168, rxM168, rx_q_vcall rxM77 rxM168 1 12))), none, none, some (.inl (fun _ => rx_q_if .eq 27 13))]
noncomputable def rxE77_1 : List (Option rx_Ent) := [none, none, none, none, none, none, none, none, none, none, none, some (.inl (fun _ => rx_h_push (rx_n (-1)) 1)), some (.inr (.inl (rx_q_reti 0 0)))]
noncomputable def rxE77 : List (List (Option rx_Ent)) := [rxE77_0, rxE77_1]
noncomputable def rxE78_0 : List (Option rx_Ent) := [some (.inl (fun _ => rx_q_loadA 0 1)), some (.inl (fun _ => rx_q_load 0 1 1)), some (.inl (fun _ => rx_q_load 0 2 1)), some (.inl (fun _ => rx_q_load 0 3 1)), some (.inr (.inr (50, rxM50, rx_q_vcall rxM78 rxM50 3 11))), none, none, some (.inl (fun _ => rx_q_if .ne 12 10)), none, none, some (.inl (fun _ => rx_h_push (rx_n (-1)) 1)), some (.inr (.inl (rx_q_reti 0 0)))]
noncomputable def rxE78 : List (List (Option rx_Ent)) := [rxE78_0]
noncomputable def rxE79_0 : List (Option rx_Ent) := [some (.inl (fun _ => rx_q_loadA 0 1)), some (.inl (fun _ => rx_h_push (rx_n 0) 1)), some (.inl (fun _ => rx_q_put (12, 0, 0, false, false) false)), none, none, some (.inl (fun _ => rx_q_loadA 0 1)), some (.inl (fun _ => rx_q_load 0 1 1)), some (.inl (fun _ => rx_q_load 0 2 1)), some (.inl (fun _ => rx_q_load 0 3 1)), some (.inr (.inr (169, rxM169, rx_q_vcall rxM79 rxM169 3 12))), none, none, some (.inl (fun _ => rx_q_if .eq 43 15))]
noncomputable def rxE79_2 : List (Option rx_Ent) := [none, none, none, none, none, none, none, none, none, none, none, some (.inl (fun _ => rx_h_push (rx_n (-1)) 1)), some (.inr (.inl (rx_q_reti 0 0)))]
noncomputable def rxE79 : List (List (Option rx_Ent)) := [rxE79_0, [], rxE79_2]
noncomputable def rxE80_0 : List (Option rx_Ent) := [some (.inl (fun _ => rx_q_load 0 4 2)), none, some (.inl (fun _ => rx_q_if .lt 21 5)), none, none, some (.inl (fun _ => rx_q_load 0 4 2)), none, some (.inl (fun _ => rx_h_push (rx_n 2) 1)), some (.inl (fun _ => rx_q_icmp .gt 21 11)), none, none, some (.inl (fun _ => rx_q_loadA 0 1)), some (.inl (fun _ => rx_q_load 0 1 1)), some (.inl (fun _ => rx_q_load 0 2 1)), some (.inl (fun _ => rx_q_load 0 3 1)), some (.inr (.inr (50, rxM50, rx_q_vcall rxM80 rxM50 3 11)))]
noncomputable def rxE80_1 : List (Option rx_Ent) := [none, none, some (.inl (fun _ => rx_q_if .ne 23 21)), none, none, some (.inl (fun _ => rx_h_push (rx_n (-1)) 1)), some (.inr (.inl (rx_q_reti 0 0)))]
noncomputable def rxE80 : List (List (Option rx_Ent)) := [rxE80_0, rxE80_1]
noncomputable def rxE81_0 : List (Option rx_Ent) := [some (.inl (fun _ => rx_q_loadA 0 1)), some (.inl (fun _ => rx_h_push (rx_n 0) 1)), some (.inl (fun _ => rx_q_put (12, 0, 0, false, false) false)), none, none, some (.inl (fun _ => rx_q_loadA 0 1)), some (.inl (fun _ => rx_q_load 0 1 1)), some (.inl (fun _ => rx_q_load 0 2 1)), some (.inl (fun _ => rx_q_load 0 3 1)), some (.inr (.inr (169, rxM169, rx_q_vcall rxM81 rxM169 3 12))), none, none, some (.inl (fun _ => rx_q_if .eq 28 15))]
noncomputable def rxE81_1 : List (Option rx_Ent) := [none, none, none, none, none, none, none, none, none, none, none, none, some (.inl (fun _ => rx_h_push (rx_n (-1)) 1)), some (.inr (.inl (rx_q_reti 0 0)))]
noncomputable def rxE81 : List (List (Option rx_Ent)) := [rxE81_0, rxE81_1]
noncomputable def rxE82_0 : List (Option rx_Ent) := [some (.inl (fun _ => rx_q_loadA 0 1)), some (.inl (fun _ => rx_q_get (11, 0, 3, true, false))), none, none, some (.inl (fun _ => rx_q_load 0 1 1)), some (.inr (.inr (42, rxM42, rx_q_vcall rxM82 rxM42 1 10))), none, none, some (.inl (fun _ => rx_q_if .eq 21 11))]
noncomputable def rxE82_1 : List (Option rx_Ent) := [none, none, none, none, none, some (.inl (fun _ => rx_h_push (rx_n (-1)) 1)), some (.inr (.inl (rx_q_reti 0 0)))]
noncomputable def rxE82 : List (List (Option rx_Ent)) := [rxE82_0, rxE82_1]
noncomputable def rxE83_0 : List (Option rx_Ent) := [some (.inl (fun _ => rx_q_loadA 0 1)), some (.inl (fun _ => rx_h_push (rx_n 0) 1)), some (.inl (fun _ => rx_q_put (12, 0, 0, false, false) false)), none, none, some (.inl (fun _ => rx_q_loadA 0 1)), some (.inl (fun _ => rx_q_get (12, 3, 3, true, false))), none, none, some (.inl (fun _ => rx_h_push (rx_n 5) 1)), some (.inl (fun _ => rx_q_ald (rx_isTc 0))), some (.inl (fun _ => rx_h_istore 6 3 1)), some (.inl (fun _ => rx_q_loadA 0 1)), some (.inl (fun _ => rx_q_load 0 1 1)), some (.inr (.inr (158, rxM158, rx_q_vcall rxM83 rxM158 1 12)))]
noncomputable def rxE83_1 : List (Option rx_Ent) := [none, some (.inl (fun _ => rx_q_if .eq 36 20))]
noncomputable def rxE83_2 : List (Option rx_Ent) := [none, none, none, none, some (.inl (fun _ => rx_h_push (rx_n (-1)) 1)), some (.inr (.inl (rx_q_reti 0 0)))]
noncomputable def rxE83 : List (List (Option rx_Ent)) := [rxE83_0, rxE83_1, rxE83_2]
noncomputable def rxE84_0 : List (Option rx_Ent) := [some (.inl (fun _ => rx_q_load 0 1 1)), some (.inl (fun _ => rx_q_if .lt 20 4)), none, none, some (.inl (fun _ => rx_q_load 0 1 1)), some (.inl (fun _ => rx_h_push (rx_n 6) 2)), none, some (.inl (fun _ => rx_q_icmp .gt 20 10)), none, none, some (.inl (fun _ => rx_q_load 0 2 1)), some (.inl (fun _ => rx_q_if .lt 20 14)), none, none, some (.inl (fun _ => rx_q_load 0 2 1)), some (.inl (fun _ => rx_h_push (rx_n 10) 2))]
noncomputable def rxE84_1 : List (Option rx_Ent) := [none, some (.inl (fun _ => rx_q_icmp .lt 24 20)), none, none, some (.inl (fun _ => rx_h_push (.inr (1, (0, (-1)))) 3)), none, none, some (.inr (.inl (rx_q_retl 0 0))), some (.inl (fun _ => rx_q_load 0 1 1)), some (.inl (fun _ => rx_q_load 0 2 1)), some (.inl (fun _ => rx_q_loadA 0 1)), some (.inl (fun _ => rx_q_get (11, 0, 3, true, false))), none, none, some (.inl (fun _ => rx_q_get (10, 13, 3, true, true)))]
noncomputable def rxE84_2 : List (Option rx_Ent) := [none, some (.inl (fun _ => rx_h_push (rx_n 2) 1)), some (.inl (fun _ => rx_q_ald (rx_isTc 0))), some (.inr (.inr (18, rxM18, rx_q_scall rxM84 rxM18 3))), none, none, some (.inr (.inl (rx_q_retl 0 0)))]
noncomputable def rxE84 : List (List (Option rx_Ent)) := [rxE84_0, rxE84_1, rxE84_2]
noncomputable def rxE85_0 : List (Option rx_Ent) := [some (.inl (fun _ => rx_q_loadA 0 1)), some (.inl (fun _ => rx_h_push (rx_n 0) 1)), some (.inl (fun _ => rx_q_put (12, 0, 0, false, false) false)), none, none, some (.inl (fun _ => rx_q_load 0 1 1)), some (.inl (fun _ => rx_h_i2l)), some (.inl (fun _ => rx_h_push (.inr (1, (0, 0))) 1)), some (.inl (fun _ => rx_h_push (.inr (1, (0, 6))) 3)), none, none, some (.inr (.inr (19, rxM19, rx_q_scall rxM85 rxM19 3))), none, none, some (.inl (fun _ => rx_q_if .eq 29 17))]
noncomputable def rxE85_1 : List (Option rx_Ent) := [none, some (.inl (fun _ => rx_q_load 0 2 1)), some (.inl (fun _ => rx_h_i2l)), some (.inl (fun _ => rx_h_push (.inr (1, (0, 0))) 1)), some (.inl (fun _ => rx_h_push (.inr (1, (0, 9))) 3)), none, none, some (.inr (.inr (19, rxM19, rx_q_scall rxM85 rxM19 3))), none, none, some (.inl (fun _ => rx_q_if .ne 33 29)), none, none, some (.inl (fun _ => rx_h_push (.inr (1, (0, (-1)))) 3))]
noncomputable def rxE85_2 : List (Option rx_Ent) := [some (.inr (.inl (rx_q_retl 0 0))), some (.inl (fun _ => rx_q_load 0 2 1)), some (.inl (fun _ => rx_q_load 0 1 1)), some (.inl (fun _ => rx_q_icmp .le 40 38)), none, none, some (.inl (fun _ => rx_h_push (.inr (1, (0, 0))) 1)), some (.inr (.inl (rx_q_retl 0 0))), some (.inl (fun _ => rx_h_push (.inr (1, (0, 1))) 1)), some (.inl (fun _ => rx_h_lstore 6 3 1)), some (.inl (fun _ => rx_h_push (rx_n 1) 1)), some (.inl (fun _ => rx_h_istore 6 5 2)), none, some (.inl (fun _ => rx_q_load 0 5 2)), none, some (.inl (fun _ => rx_q_load 0 2 1))]
noncomputable def rxE85_3 : List (Option rx_Ent) := [some (.inl (fun _ => rx_q_icmp .gt 71 51)), none, none, some (.inl (fun _ => rx_q_load 1 3 1)), some (.inl (fun _ => rx_q_load 0 1 1)), some (.inl (fun _ => rx_q_load 0 2 1)), some (.inl (fun _ => rx_h_bin 1)), some (.inl (fun _ => rx_q_load 0 5 2)), none, some (.inl (fun _ => rx_h_bin 0)), some (.inl (fun _ => rx_h_i2l)), some (.inl (fun _ => rx_h_binL 2)), some (.inl (fun _ => rx_q_load 0 5 2)), none, some (.inl (fun _ => rx_h_i2l)), some (.inl (fun _ => rx_h_divL 3))]
noncomputable def rxE85_4 : List (Option rx_Ent) := [some (.inl (fun _ => rx_h_lstore 6 3 1)), some (.inl (fun _ => rx_h_iinc 6 5 1)), none, none, some (.inl (fun _ => rx_q_goto 45)), none, none, some (.inl (fun _ => rx_h_push (rx_n 0) 1)), some (.inl (fun _ => rx_h_istore 6 5 2)), none, some (.inl (fun _ => rx_q_load 0 5 2)), none, some (.inl (fun _ => rx_q_load 0 1 1)), some (.inl (fun _ => rx_q_icmp .ge 117 80))]
noncomputable def rxE85_5 : List (Option rx_Ent) := [some (.inl (fun _ => rx_q_load 1 3 1)), some (.inl (fun _ => rx_q_load 0 5 2)), none, some (.inl (fun _ => rx_q_load 0 2 1)), some (.inl (fun _ => rx_q_icmp .ge 98 87)), none, none, some (.inl (fun _ => rx_q_loadA 0 1)), some (.inl (fun _ => rx_q_get (12, 3, 3, true, false))), none, none, some (.inl (fun _ => rx_h_push (rx_n 9) 2)), none, some (.inl (fun _ => rx_q_ald (rx_isTc 0))), some (.inl (fun _ => rx_h_i2l)), some (.inl (fun _ => rx_q_goto 109))]
noncomputable def rxE85_6 : List (Option rx_Ent) := [none, none, some (.inl (fun _ => rx_h_push (rx_n 100) 2)), none, some (.inl (fun _ => rx_q_loadA 0 1)), some (.inl (fun _ => rx_q_get (12, 3, 3, true, false))), none, none, some (.inl (fun _ => rx_h_push (rx_n 9) 2)), none, some (.inl (fun _ => rx_q_ald (rx_isTc 0))), some (.inl (fun _ => rx_h_bin 1)), some (.inl (fun _ => rx_h_i2l)), some (.inl (fun _ => rx_h_binL 2)), some (.inl (fun _ => rx_h_lstore 6 3 1)), some (.inl (fun _ => rx_h_iinc 6 5 1))]
noncomputable def rxE85_7 : List (Option rx_Ent) := [none, none, some (.inl (fun _ => rx_q_goto 74)), none, none, some (.inl (fun _ => rx_q_load 1 3 1)), some (.inr (.inl (rx_q_retl 0 0)))]
noncomputable def rxE85 : List (List (Option rx_Ent)) := [rxE85_0, rxE85_1, rxE85_2, rxE85_3, rxE85_4, rxE85_5, rxE85_6, rxE85_7]
noncomputable def rxE86_0 : List (Option rx_Ent) := [some (.inl (fun _ => rx_q_loadA 0 1)), some (.inl (fun _ => rx_q_get (11, 0, 3, true, false))), none, none, some (.inl (fun _ => rx_q_load 0 1 1)), some (.inr (.inr (42, rxM42, rx_q_vcall rxM86 rxM42 1 10))), none, none, some (.inl (fun _ => rx_q_if .eq 19 11))]
noncomputable def rxE86_1 : List (Option rx_Ent) := [none, none, none, some (.inl (fun _ => rx_h_push (rx_n (-1)) 1)), some (.inr (.inl (rx_q_reti 0 0)))]
noncomputable def rxE86 : List (List (Option rx_Ent)) := [rxE86_0, rxE86_1]
noncomputable def rxE87_0 : List (Option rx_Ent) := [some (.inl (fun _ => rx_q_loadA 0 1)), some (.inl (fun _ => rx_h_push (rx_n 0) 1)), some (.inl (fun _ => rx_q_put (12, 0, 0, false, false) false)), none, none, some (.inl (fun _ => rx_q_loadA 0 1)), some (.inl (fun _ => rx_q_load 0 1 1)), some (.inr (.inr (158, rxM158, rx_q_vcall rxM87 rxM158 1 12))), none, none, some (.inl (fun _ => rx_q_if .eq 21 13))]
noncomputable def rxE87_1 : List (Option rx_Ent) := [none, none, none, none, none, some (.inl (fun _ => rx_h_push (rx_n (-1)) 1)), some (.inr (.inl (rx_q_reti 0 0)))]
noncomputable def rxE87 : List (List (Option rx_Ent)) := [rxE87_0, rxE87_1]
noncomputable def rxE88_0 : List (Option rx_Ent) := [some (.inl (fun _ => rx_q_loadA 0 1)), some (.inl (fun _ => rx_q_get (11, 0, 3, true, false))), none, none, some (.inl (fun _ => rx_q_load 0 1 1)), some (.inr (.inr (42, rxM42, rx_q_vcall rxM88 rxM42 1 10))), none, none, some (.inl (fun _ => rx_q_if .eq 20 11))]
noncomputable def rxE88_1 : List (Option rx_Ent) := [none, none, none, none, some (.inl (fun _ => rx_h_push (.inr (1, (0, (-1)))) 3)), none, none, some (.inr (.inl (rx_q_retl 0 0)))]
noncomputable def rxE88 : List (List (Option rx_Ent)) := [rxE88_0, rxE88_1]
noncomputable def rxE89_0 : List (Option rx_Ent) := [some (.inl (fun _ => rx_q_loadA 0 1)), some (.inl (fun _ => rx_h_push (rx_n 0) 1)), some (.inl (fun _ => rx_q_put (12, 0, 0, false, false) false)), none, none, some (.inl (fun _ => rx_q_loadA 0 1)), some (.inl (fun _ => rx_q_load 0 1 1)), some (.inr (.inr (158, rxM158, rx_q_vcall rxM89 rxM158 1 12))), none, none, some (.inl (fun _ => rx_q_if .eq 23 13))]
noncomputable def rxE89_1 : List (Option rx_Ent) := [none, none, none, none, none, none, none, some (.inl (fun _ => rx_h_push (.inr (1, (0, (-1)))) 3)), none, none, some (.inr (.inl (rx_q_retl 0 0)))]
noncomputable def rxE89 : List (List (Option rx_Ent)) := [rxE89_0, rxE89_1]
noncomputable def rxE90_0 : List (Option rx_Ent) := [some (.inl (fun _ => rx_q_loadA 0 1)), some (.inl (fun _ => rx_q_get (11, 0, 3, true, false))), none, none, some (.inl (fun _ => rx_q_load 0 1 1)), some (.inr (.inr (42, rxM42, rx_q_vcall rxM90 rxM42 1 10))), none, none, some (.inl (fun _ => rx_q_if .eq 25 11))]
noncomputable def rxE90_1 : List (Option rx_Ent) := [none, none, none, none, none, none, none, none, none, some (.inl (fun _ => rx_h_push (rx_n (-1)) 1)), some (.inr (.inl (rx_q_reti 0 0)))]
noncomputable def rxE90 : List (List (Option rx_Ent)) := [rxE90_0, rxE90_1]
noncomputable def rxE91_0 : List (Option rx_Ent) := [some (.inl (fun _ => rx_q_loadA 0 1)), some (.inl (fun _ => rx_h_push (rx_n 0) 1)), some (.inl (fun _ => rx_q_put (12, 0, 0, false, false) false)), none, none, some (.inl (fun _ => rx_q_loadA 0 1)), some (.inl (fun _ => rx_q_load 0 1 1)), some (.inr (.inr (158, rxM158, rx_q_vcall rxM91 rxM158 1 12))), none, none, some (.inl (fun _ => rx_q_if .eq 39 13))]
noncomputable def rxE91_2 : List (Option rx_Ent) := [none, none, none, none, none, none, none, some (.inl (fun _ => rx_h_push (rx_n (-1)) 1)), some (.inr (.inl (rx_q_reti 0 0)))]
noncomputable def rxE91 : List (List (Option rx_Ent)) := [rxE91_0, [], rxE91_2]
noncomputable def rxE92_0 : List (Option rx_Ent) := [some (.inl (fun _ => rx_q_loadA 0 1)), some (.inl (fun _ => rx_q_get (11, 14, 3, true, false))), none, none, some (.inl (fun _ => rx_q_loadA 0 1)), some (.inl (fun _ => rx_q_get (11, 0, 3, true, false))), none, none, some (.inr (.inr (51, rxM51, rx_q_vcall rxM92 rxM51 1 0))), none, none, some (.inl (fun _ => rx_q_loadA 0 1)), some (.inl (fun _ => rx_q_get (11, 14, 3, true, false))), none, none, some (.inr (.inr (52, rxM52, rx_q_vcall rxM92 rxM52 0 0)))]
noncomputable def rxE92_1 : List (Option rx_Ent) := [none, none, some (.inl (fun _ => rx_q_load 0 1 1)), some (.inl (fun _ => rx_q_if .ne 30 22)), none, none, some (.inl (fun _ => rx_q_loadA 0 1)), some (.inl (fun _ => rx_q_get (11, 14, 3, true, false))), none, none, some (.inl (fun _ => rx_q_get (0, 8, 0, false, true))), none, none, some (.inr (.inl (rx_q_reti 0 0))), some (.inl (fun _ => rx_q_load 0 1 1)), some (.inl (fun _ => rx_h_push (rx_n 20) 2))]
noncomputable def rxE92_2 : List (Option rx_Ent) := [none, some (.inl (fun _ => rx_q_icmp .ne 44 36)), none, none, some (.inl (fun _ => rx_q_loadA 0 1)), some (.inl (fun _ => rx_q_get (11, 14, 3, true, false))), none, none, some (.inl (fun _ => rx_q_get (0, 9, 0, false, true))), none, none, some (.inr (.inl (rx_q_reti 0 0))), some (.inl (fun _ => rx_q_loadA 0 1)), some (.inl (fun _ => rx_q_get (11, 14, 3, true, false)))]
noncomputable def rxE92_3 : List (Option rx_Ent) := [some (.inl (fun _ => rx_q_get (0, 8, 0, false, true))), none, none, some (.inl (fun _ => rx_q_if .ge 58 54)), none, none, none, none, none, none, some (.inl (fun _ => rx_q_loadA 0 1)), some (.inl (fun _ => rx_q_get (11, 14, 3, true, false))), none, none, some (.inl (fun _ => rx_q_load 0 1 1)), some (.inl (fun _ => rx_h_push (rx_n 1) 1))]
noncomputable def rxE92_4 : List (Option rx_Ent) := [some (.inl (fun _ => rx_h_bin 1)), some (.inr (.inr (53, rxM53, rx_q_vcall rxM92 rxM53 1 0))), none, none, some (.inr (.inl (rx_q_reti 0 0)))]
noncomputable def rxE92 : List (List (Option rx_Ent)) := [rxE92_0, rxE92_1, rxE92_2, rxE92_3, rxE92_4]
noncomputable def rxE93_0 : List (Option rx_Ent) := [some (.inl (fun _ => rx_q_loadA 0 1)), some (.inl (fun _ => rx_h_push (rx_n 0) 1)), some (.inl (fun _ => rx_q_put (12, 0, 0, false, false) false)), none, none, some (.inl (fun _ => rx_q_load 0 1 1)), some (.inl (fun _ => rx_h_i2l)), some (.inl (fun _ => rx_h_push (.inr (1, (0, 0))) 1)), some (.inl (fun _ => rx_q_loadA 0 1)), some (.inl (fun _ => rx_q_get (12, 3, 3, true, false))), none, none, some (.inl (fun _ => rx_h_push (rx_n 0) 1)), some (.inl (fun _ => rx_q_ald (rx_isTc 0))), some (.inl (fun _ => rx_h_i2l)), some (.inr (.inr (19, rxM19, rx_q_scall rxM93 rxM19 3)))]
noncomputable def rxE93_1 : List (Option rx_Ent) := [none, none, some (.inl (fun _ => rx_q_if .ne 29 21)), none, none, some (.inl (fun _ => rx_q_load 0 1 1)), some (.inl (fun _ => rx_h_push (rx_n 20) 2)), none, some (.inl (fun _ => rx_q_icmp .eq 29 27)), none, none, some (.inl (fun _ => rx_h_push (rx_n (-1)) 1)), some (.inr (.inl (rx_q_reti 0 0))), some (.inl (fun _ => rx_q_loadA 0 1)), some (.inr (.inr (171, rxM171, rx_q_vcall rxM93 rxM171 0 12)))]
noncomputable def rxE93_2 : List (Option rx_Ent) := [none, some (.inl (fun _ => rx_q_load 0 1 1)), some (.inl (fun _ => rx_h_push (rx_n 20) 2)), none, some (.inl (fun _ => rx_q_icmp .ne 44 39)), none, none, some (.inl (fun _ => rx_q_loadA 0 1)), some (.inl (fun _ => rx_q_get (12, 59, 0, false, false))), none, none, some (.inr (.inl (rx_q_reti 0 0))), some (.inl (fun _ => rx_q_loadA 0 1)), some (.inl (fun _ => rx_q_get (12, 59, 0, false, false)))]
noncomputable def rxE93_3 : List (Option rx_Ent) := [some (.inl (fun _ => rx_q_if .ne 55 51)), none, none, none, none, none, none, some (.inl (fun _ => rx_q_load 0 1 1)), some (.inl (fun _ => rx_q_if .ne 66 59)), none, none, some (.inl (fun _ => rx_q_loadA 0 1)), some (.inl (fun _ => rx_q_get (12, 58, 0, false, false))), none, none, some (.inl (fun _ => rx_q_goto 74))]
noncomputable def rxE93_4 : List (Option rx_Ent) := [none, none, none, none, none, none, none, none, none, none, some (.inr (.inl (rx_q_reti 0 0)))]
noncomputable def rxE93 : List (List (Option rx_Ent)) := [rxE93_0, rxE93_1, rxE93_2, rxE93_3, rxE93_4]
noncomputable def rxE94_0 : List (Option rx_Ent) := [some (.inl (fun _ => rx_q_load 0 1 1)), some (.inl (fun _ => rx_q_if .lt 29 4)), none, none, some (.inl (fun _ => rx_q_load 0 1 1)), some (.inl (fun _ => rx_h_push (rx_n 4) 1)), some (.inl (fun _ => rx_q_icmp .ge 29 9)), none, none, some (.inl (fun _ => rx_q_load 0 2 1)), some (.inl (fun _ => rx_q_if .lt 29 13)), none, none, some (.inl (fun _ => rx_q_load 0 2 1)), some (.inl (fun _ => rx_h_push (rx_n 6) 2))]
noncomputable def rxE94_1 : List (Option rx_Ent) := [some (.inl (fun _ => rx_q_icmp .ge 29 19)), none, none, some (.inl (fun _ => rx_q_load 0 3 1)), some (.inl (fun _ => rx_q_if .lt 29 23)), none, none, some (.inl (fun _ => rx_q_load 0 3 1)), some (.inl (fun _ => rx_h_push (rx_n 10) 2)), none, some (.inl (fun _ => rx_q_icmp .lt 35 29)), none, none, some (.inl (fun _ => rx_q_loadA 0 1)), some (.inl (fun _ => rx_h_push (rx_n (-1)) 1)), some (.inr (.inr (39, rxM39, rx_q_vcall rxM94 rxM39 1 11)))]
noncomputable def rxE94_2 : List (Option rx_Ent) := [none, none, some (.inr (.inl (rx_q_reti 0 0))), some (.inl (fun _ => rx_q_loadA 0 1)), some (.inl (fun _ => rx_q_get (11, 0, 3, true, false))), none, none, some (.inl (fun _ => rx_q_get (10, 12, 3, true, true))), none, none, some (.inl (fun _ => rx_q_get (2, 0, 0, false, true))), none, none, some (.inl (fun _ => rx_h_push (rx_n 12) 2)), none, some (.inl (fun _ => rx_q_icmp .lt 57 50))]
noncomputable def rxE94_3 : List (Option rx_Ent) := [none, none, none, none, none, none, none, none, none, some (.inl (fun _ => rx_q_loadA 0 1)), some (.inl (fun _ => rx_q_loadA 0 1)), some (.inl (fun _ => rx_q_get (11, 0, 3, true, false))), none, none, some (.inl (fun _ => rx_q_get (10, 12, 3, true, true)))]
noncomputable def rxE94_4 : List (Option rx_Ent) := [none, some (.inl (fun _ => rx_q_load 0 1 1)), some (.inl (fun _ => rx_q_load 0 2 1)), some (.inl (fun _ => rx_q_load 0 3 1)), some (.inr (.inr (54, rxM54, rx_q_vcall rxM94 rxM54 3 2))), none, none, some (.inr (.inr (41, rxM41, rx_q_vcall rxM94 rxM41 1 11))), none, none, some (.inr (.inl (rx_q_reti 0 0)))]
noncomputable def rxE94 : List (List (Option rx_Ent)) := [rxE94_0, rxE94_1, rxE94_2, rxE94_3, rxE94_4]
noncomputable def rxE95_0 : List (Option rx_Ent) := [some (.inl (fun _ => rx_q_loadA 0 1)), some (.inl (fun _ => rx_h_push (rx_n 0) 1)), some (.inl (fun _ => rx_q_put (12, 0, 0, false, false) false)), none, none, some (.inl (fun _ => rx_q_load 0 1 1)), some (.inl (fun _ => rx_h_i2l)), some (.inl (fun _ => rx_h_push (.inr (1, (0, 0))) 1)), some (.inl (fun _ => rx_h_push (.inr (1, (0, 23))) 3)), none, none, some (.inr (.inr (19, rxM19, rx_q_scall rxM95 rxM19 3))), none, none, some (.inl (fun _ => rx_q_if .eq 32 17))]
noncomputable def rxE95_1 : List (Option rx_Ent) := [none, some (.inl (fun _ => rx_q_load 0 2 1)), some (.inl (fun _ => rx_h_i2l)), some (.inl (fun _ => rx_q_load 0 1 1)), some (.inl (fun _ => rx_h_i2l)), some (.inl (fun _ => rx_h_push (.inr (1, (0, 1))) 1)), some (.inl (fun _ => rx_h_binL 0)), some (.inl (fun _ => rx_h_push (.inr (1, (0, 24))) 3)), none, none, some (.inr (.inr (19, rxM19, rx_q_scall rxM95 rxM19 3))), none, none, some (.inl (fun _ => rx_q_if .ne 38 32))]
noncomputable def rxE95_2 : List (Option rx_Ent) := [some (.inl (fun _ => rx_q_loadA 0 1)), some (.inl (fun _ => rx_h_push (rx_n (-1)) 1)), some (.inr (.inr (156, rxM156, rx_q_vcall rxM95 rxM156 1 12))), none, none, some (.inr (.inl (rx_q_reti 0 0))), some (.inl (fun _ => rx_q_loadA 0 1)), some (.inl (fun _ => rx_q_get (12, 3, 3, true, false))), none, none, some (.inl (fun _ => rx_h_push (rx_n 0) 1)), some (.inl (fun _ => rx_q_ald (rx_isTc 0))), some (.inl (fun _ => rx_h_istore 5 3 1)), some (.inl (fun _ => rx_q_load 0 3 1)), some (.inl (fun _ => rx_h_push (rx_n 6) 2))]
noncomputable def rxE95_3 : List (Option rx_Ent) := [some (.inl (fun _ => rx_q_icmp .ne 58 51)), none, none, none, none, none, none, none, none, none, some (.inl (fun _ => rx_q_loadA 0 1)), some (.inl (fun _ => rx_q_get (12, 3, 3, true, false))), none, none, some (.inl (fun _ => rx_h_push (rx_n 10) 2))]
noncomputable def rxE95_4 : List (Option rx_Ent) := [some (.inl (fun _ => rx_h_push (rx_n 2) 1)), some (.inl (fun _ => rx_q_load 0 3 1)), some (.inl (fun _ => rx_h_bin 2)), some (.inl (fun _ => rx_h_bin 0)), some (.inl (fun _ => rx_q_load 0 1 1)), some (.inl (fun _ => rx_q_ast (rx_isTc 0) (fun I _ _ v => rx_fit I 0 v))), some (.inl (fun _ => rx_q_loadA 0 1)), some (.inl (fun _ => rx_q_get (12, 3, 3, true, false))), none, none, some (.inl (fun _ => rx_h_push (rx_n 10) 2)), none, some (.inl (fun _ => rx_h_push (rx_n 2) 1)), some (.inl (fun _ => rx_q_load 0 3 1)), some (.inl (fun _ => rx_h_bin 2)), some (.inl (fun _ => rx_h_bin 0))]
noncomputable def rxE95_5 : List (Option rx_Ent) := [some (.inl (fun _ => rx_h_push (rx_n 1) 1)), some (.inl (fun _ => rx_h_bin 0)), some (.inl (fun _ => rx_q_load 0 2 1)), some (.inl (fun _ => rx_q_ast (rx_isTc 0) (fun I _ _ v => rx_fit I 0 v))), some (.inl (fun _ => rx_h_push (rx_n 0) 1)), some (.inl (fun _ => rx_h_istore 5 4 2)), none, some (.inl (fun _ => rx_q_load 0 4 2)), none, some (.inl (fun _ => rx_h_push (rx_n 36) 2)), none, some (.inl (fun _ => rx_q_icmp .ge 116 94)), none, none, some (.inl (fun _ => rx_q_loadA 0 1)), some (.inl (fun _ => rx_q_get (12, 3, 3, true, false)))]
noncomputable def rxE95_6 : List (Option rx_Ent) := [none, none, some (.inl (fun _ => rx_h_push (rx_n 22) 2)), none, some (.inl (fun _ => rx_h_push (rx_n 36) 2)), none, some (.inl (fun _ => rx_q_load 0 3 1)), some (.inl (fun _ => rx_h_bin 2)), some (.inl (fun _ => rx_h_bin 0)), some (.inl (fun _ => rx_q_load 0 4 2)), none, some (.inl (fun _ => rx_h_bin 0)), some (.inl (fun _ => rx_h_push (rx_n (-1)) 1)), some (.inl (fun _ => rx_q_ast (rx_isTc 0) (fun I _ _ v => rx_fit I 0 v))), some (.inl (fun _ => rx_h_iinc 5 4 1))]
noncomputable def rxE95_7 : List (Option rx_Ent) := [none, some (.inl (fun _ => rx_q_goto 87)), none, none, some (.inl (fun _ => rx_q_loadA 0 1)), some (.inl (fun _ => rx_q_get (12, 3, 3, true, false))), none, none, some (.inl (fun _ => rx_h_push (rx_n 0) 1)), some (.inl (fun _ => rx_h_dup2)), some (.inl (fun _ => rx_q_ald (rx_isTc 0))), some (.inl (fun _ => rx_h_push (rx_n 1) 1)), some (.inl (fun _ => rx_h_bin 0)), some (.inl (fun _ => rx_q_ast (rx_isTc 0) (fun I _ _ v => rx_fit I 0 v))), some (.inl (fun _ => rx_q_loadA 0 1)), some (.inl (fun _ => rx_q_load 0 3 1))]
noncomputable def rxE95_8 : List (Option rx_Ent) := [some (.inr (.inr (156, rxM156, rx_q_vcall rxM95 rxM156 1 12))), none, none, some (.inr (.inl (rx_q_reti 0 0)))]
noncomputable def rxE95 : List (List (Option rx_Ent)) := [rxE95_0, rxE95_1, rxE95_2, rxE95_3, rxE95_4, rxE95_5, rxE95_6, rxE95_7, rxE95_8]
noncomputable def rxE96_0 : List (Option rx_Ent) := [some (.inl (fun _ => rx_q_loadA 0 1)), some (.inl (fun _ => rx_h_push (rx_n 0) 1)), some (.inl (fun _ => rx_q_put (12, 0, 0, false, false) false)), none, none, some (.inl (fun _ => rx_q_load 0 1 1)), some (.inl (fun _ => rx_h_i2l)), some (.inl (fun _ => rx_h_push (.inr (1, (0, 0))) 1)), some (.inl (fun _ => rx_h_push (.inr (1, (0, 3))) 3)), none, none, some (.inr (.inr (19, rxM19, rx_q_scall rxM96 rxM19 3))), none, none, some (.inl (fun _ => rx_q_if .eq 36 17))]
noncomputable def rxE96_1 : List (Option rx_Ent) := [none, some (.inl (fun _ => rx_q_load 0 2 1)), some (.inl (fun _ => rx_h_i2l)), some (.inl (fun _ => rx_h_push (.inr (1, (0, 0))) 1)), some (.inl (fun _ => rx_h_push (.inr (1, (0, 5))) 3)), none, none, some (.inr (.inr (19, rxM19, rx_q_scall rxM96 rxM19 3))), none, none, some (.inl (fun _ => rx_q_if .eq 36 29)), none, none, some (.inl (fun _ => rx_q_load 0 3 1)), some (.inr (.inr (21, rxM21, rx_q_scall rxM96 rxM21 1)))]
noncomputable def rxE96_2 : List (Option rx_Ent) := [none, some (.inl (fun _ => rx_q_if .ne 42 36)), none, none, some (.inl (fun _ => rx_q_loadA 0 1)), some (.inl (fun _ => rx_h_push (rx_n (-1)) 1)), some (.inr (.inr (156, rxM156, rx_q_vcall rxM96 rxM156 1 12))), none, none, some (.inr (.inl (rx_q_reti 0 0))), some (.inl (fun _ => rx_q_loadA 0 1)), some (.inl (fun _ => rx_q_get (12, 3, 3, true, false))), none, none, some (.inl (fun _ => rx_h_push (rx_n 6) 2))]
noncomputable def rxE96_3 : List (Option rx_Ent) := [some (.inl (fun _ => rx_q_ald (rx_isTc 0))), some (.inl (fun _ => rx_h_istore 5 4 2)), none, some (.inl (fun _ => rx_q_load 0 4 2)), none, some (.inl (fun _ => rx_h_push (rx_n 12) 2)), none, some (.inl (fun _ => rx_q_icmp .ne 65 58))]
noncomputable def rxE96_4 : List (Option rx_Ent) := [none, some (.inl (fun _ => rx_q_loadA 0 1)), some (.inl (fun _ => rx_q_get (12, 3, 3, true, false))), none, none, some (.inl (fun _ => rx_h_push (rx_n 742) 3)), none, none, some (.inl (fun _ => rx_h_push (rx_n 3) 1)), some (.inl (fun _ => rx_q_load 0 4 2)), none, some (.inl (fun _ => rx_h_bin 2)), some (.inl (fun _ => rx_h_bin 0)), some (.inl (fun _ => rx_q_load 0 1 1)), some (.inl (fun _ => rx_q_ast (rx_isTc 0) (fun I _ _ v => rx_fit I 0 v))), some (.inl (fun _ => rx_q_loadA 0 1))]
noncomputable def rxE96_5 : List (Option rx_Ent) := [some (.inl (fun _ => rx_q_get (12, 3, 3, true, false))), none, none, some (.inl (fun _ => rx_h_push (rx_n 742) 3)), none, none, some (.inl (fun _ => rx_h_push (rx_n 3) 1)), some (.inl (fun _ => rx_q_load 0 4 2)), none, some (.inl (fun _ => rx_h_bin 2)), some (.inl (fun _ => rx_h_bin 0)), some (.inl (fun _ => rx_h_push (rx_n 1) 1)), some (.inl (fun _ => rx_h_bin 0)), some (.inl (fun _ => rx_q_load 0 2 1)), some (.inl (fun _ => rx_q_ast (rx_isTc 0) (fun I _ _ v => rx_fit I 0 v))), some (.inl (fun _ => rx_q_loadA 0 1))]
noncomputable def rxE96_6 : List (Option rx_Ent) := [some (.inl (fun _ => rx_q_get (12, 3, 3, true, false))), none, none, some (.inl (fun _ => rx_h_push (rx_n 742) 3)), none, none, some (.inl (fun _ => rx_h_push (rx_n 3) 1)), some (.inl (fun _ => rx_q_load 0 4 2)), none, some (.inl (fun _ => rx_h_bin 2)), some (.inl (fun _ => rx_h_bin 0)), some (.inl (fun _ => rx_h_push (rx_n 2) 1)), some (.inl (fun _ => rx_h_bin 0)), some (.inl (fun _ => rx_q_load 0 3 1)), some (.inl (fun _ => rx_q_ast (rx_isTc 0) (fun I _ _ v => rx_fit I 0 v))), some (.inl (fun _ => rx_q_loadA 0 1))]
noncomputable def rxE96_7 : List (Option rx_Ent) := [some (.inl (fun _ => rx_q_get (12, 3, 3, true, false))), none, none, some (.inl (fun _ => rx_h_push (rx_n 6) 2)), none, some (.inl (fun _ => rx_h_dup2)), some (.inl (fun _ => rx_q_ald (rx_isTc 0))), some (.inl (fun _ => rx_h_push (rx_n 1) 1)), some (.inl (fun _ => rx_h_bin 0)), some (.inl (fun _ => rx_q_ast (rx_isTc 0) (fun I _ _ v => rx_fit I 0 v))), some (.inl (fun _ => rx_q_loadA 0 1)), some (.inl (fun _ => rx_q_load 0 4 2)), none, some (.inl (fun _ => rx_h_push (rx_n 1) 1)), some (.inl (fun _ => rx_h_bin 0)), some (.inr (.inr (156, rxM156, rx_q_vcall rxM96 rxM156 1 12)))]
noncomputable def rxE96_8 : List (Option rx_Ent) := [none, none, some (.inr (.inl (rx_q_reti 0 0)))]
noncomputable def rxE96 : List (List (Option rx_Ent)) := [rxE96_0, rxE96_1, rxE96_2, rxE96_3, rxE96_4, rxE96_5, rxE96_6, rxE96_7, rxE96_8]
noncomputable def rxE97_0 : List (Option rx_Ent) := [some (.inl (fun _ => rx_q_loadA 0 1)), some (.inl (fun _ => rx_q_get (11, 0, 3, true, false))), none, none, some (.inl (fun _ => rx_q_get (10, 12, 3, true, true))), none, none, some (.inl (fun _ => rx_q_get (2, 0, 0, false, true))), none, none, some (.inl (fun _ => rx_h_istore 2 1 1)), some (.inl (fun _ => rx_q_loadA 0 1)), some (.inl (fun _ => rx_q_get (11, 0, 3, true, false))), none, none, some (.inl (fun _ => rx_q_get (10, 12, 3, true, true)))]
noncomputable def rxE97_1 : List (Option rx_Ent) := [none, none, some (.inl (fun _ => rx_h_push (rx_n 0) 1)), some (.inl (fun _ => rx_q_put (2, 0, 0, false, true) false)), none, none, some (.inl (fun _ => rx_q_load 0 1 1)), some (.inr (.inl (rx_q_reti 0 0)))]
noncomputable def rxE97 : List (List (Option rx_Ent)) := [rxE97_0, rxE97_1]
noncomputable def rxE98_0 : List (Option rx_Ent) := [some (.inl (fun _ => rx_q_loadA 0 1)), some (.inl (fun _ => rx_h_push (rx_n 0) 1)), some (.inl (fun _ => rx_q_put (12, 0, 0, false, false) false)), none, none, some (.inl (fun _ => rx_q_loadA 0 1)), some (.inl (fun _ => rx_q_get (12, 3, 3, true, false))), none, none, some (.inl (fun _ => rx_h_push (rx_n 6) 2)), none, some (.inl (fun _ => rx_q_ald (rx_isTc 0))), some (.inl (fun _ => rx_h_istore 2 1 1)), some (.inl (fun _ => rx_q_loadA 0 1)), some (.inl (fun _ => rx_q_get (12, 3, 3, true, false)))]
noncomputable def rxE98_1 : List (Option rx_Ent) := [none, some (.inl (fun _ => rx_h_push (rx_n 6) 2)), none, some (.inl (fun _ => rx_h_push (rx_n 0) 1)), some (.inl (fun _ => rx_q_ast (rx_isTc 0) (fun I _ _ v => rx_fit I 0 v))), some (.inl (fun _ => rx_q_load 0 1 1)), some (.inr (.inl (rx_q_reti 0 0)))]
noncomputable def rxE98 : List (List (Option rx_Ent)) := [rxE98_0, rxE98_1]
noncomputable def rxE99_0 : List (Option rx_Ent) := [some (.inl (fun _ => rx_q_loadA 0 1)), some (.inl (fun _ => rx_q_get (11, 0, 3, true, false))), none, none, some (.inl (fun _ => rx_q_load 0 1 1)), some (.inr (.inr (49, rxM49, rx_q_vcall rxM99 rxM49 1 10))), none, none, some (.inl (fun _ => rx_q_if .ne 13 11)), none, none, some (.inl (fun _ => rx_h_push (rx_n (-1)) 1)), some (.inr (.inl (rx_q_reti 0 0)))]
noncomputable def rxE99 : List (List (Option rx_Ent)) := [rxE99_0]
noncomputable def rxE100_0 : List (Option rx_Ent) := [some (.inl (fun _ => rx_q_loadA 0 1)), some (.inl (fun _ => rx_h_push (rx_n 0) 1)), some (.inl (fun _ => rx_q_put (12, 0, 0, false, false) false)), none, none, some (.inl (fun _ => rx_q_loadA 0 1)), some (.inl (fun _ => rx_q_load 0 1 1)), some (.inr (.inr (168, rxM168, rx_q_vcall rxM100 rxM168 1 12))), none, none, some (.inl (fun _ => rx_q_if .ne 15 13)), none, none, some (.inl (fun _ => rx_h_push (rx_n (-1)) 1)), some (.inr (.inl (rx_q_reti 0 0)))]
noncomputable def rxE100 : List (List (Option rx_Ent)) := [rxE100_0]
noncomputable def rxE101_0 : List (Option rx_Ent) := [some (.inl (fun _ => rx_q_load 0 2 1)), some (.inl (fun _ => rx_q_load 0 3 1)), some (.inr (.inr (14, rxM14, rx_q_scall rxM101 rxM14 2))), none, none, some (.inl (fun _ => rx_q_if .eq 32 8)), none, none, some (.inl (fun _ => rx_q_load 0 4 2)), none, some (.inl (fun _ => rx_q_if .lt 32 13)), none, none, some (.inl (fun _ => rx_q_load 0 4 2)), none, some (.inl (fun _ => rx_h_push (rx_n 10) 2))]
noncomputable def rxE101_1 : List (Option rx_Ent) := [none, some (.inl (fun _ => rx_q_icmp .ge 32 20)), none, none, some (.inl (fun _ => rx_q_load 0 5 2)), none, some (.inl (fun _ => rx_q_if .lt 32 25)), none, none, some (.inl (fun _ => rx_q_load 0 5 2)), none, some (.inl (fun _ => rx_h_push (rx_n 6) 2)), none, some (.inl (fun _ => rx_q_icmp .lt 38 32))]
noncomputable def rxE101_2 : List (Option rx_Ent) := [some (.inl (fun _ => rx_q_loadA 0 1)), some (.inl (fun _ => rx_h_push (rx_n (-1)) 1)), some (.inr (.inr (39, rxM39, rx_q_vcall rxM101 rxM39 1 11))), none, none, some (.inr (.inl (rx_q_reti 0 0))), some (.inl (fun _ => rx_q_loadA 0 1)), some (.inl (fun _ => rx_q_get (11, 0, 3, true, false))), none, none, some (.inl (fun _ => rx_q_load 0 1 1)), some (.inr (.inr (42, rxM42, rx_q_vcall rxM101 rxM42 1 10))), none, none, some (.inl (fun _ => rx_q_if .ne 56 49))]
noncomputable def rxE101_3 : List (Option rx_Ent) := [none, some (.inl (fun _ => rx_q_loadA 0 1)), some (.inl (fun _ => rx_h_push (rx_n (-2)) 2)), none, some (.inr (.inr (39, rxM39, rx_q_vcall rxM101 rxM39 1 11))), none, none, some (.inr (.inl (rx_q_reti 0 0)))]
noncomputable def rxE101 : List (List (Option rx_Ent)) := [rxE101_0, rxE101_1, rxE101_2, rxE101_3]
noncomputable def rxE102_0 : List (Option rx_Ent) := [some (.inl (fun _ => rx_q_load 0 1 1)), some (.inl (fun _ => rx_q_if .lt 9 4)), none, none, some (.inl (fun _ => rx_q_load 0 1 1)), some (.inl (fun _ => rx_h_push (rx_n 1) 1)), some (.inl (fun _ => rx_q_icmp .le 11 9)), none, none, some (.inl (fun _ => rx_h_push (rx_n (-1)) 1)), some (.inr (.inl (rx_q_reti 0 0))), some (.inl (fun _ => rx_q_loadA 0 1)), some (.inl (fun _ => rx_q_get (11, 12, 3, true, false))), none, none, some (.inl (fun _ => rx_q_loadA 0 1))]
noncomputable def rxE102_1 : List (Option rx_Ent) := [some (.inl (fun _ => rx_q_get (11, 0, 3, true, false))), none, none, some (.inl (fun _ => rx_q_get (10, 12, 3, true, true))), none, none, some (.inr (.inr (55, rxM55, rx_q_vcall rxM102 rxM55 1 4))), none, none, some (.inl (fun _ => rx_q_loadA 0 1)), some (.inl (fun _ => rx_q_get (11, 12, 3, true, false))), none, none, some (.inr (.inr (56, rxM56, rx_q_vcall rxM102 rxM56 0 4)))]
noncomputable def rxE102_2 : List (Option rx_Ent) := [some (.inl (fun _ => rx_h_istore 3 2 1)), some (.inl (fun _ => rx_q_load 0 1 1)), some (.inl (fun _ => rx_q_if .ne 39 37)), none, none, some (.inl (fun _ => rx_q_load 0 2 1)), some (.inr (.inl (rx_q_reti 0 0))), some (.inl (fun _ => rx_q_load 0 2 1)), some (.inl (fun _ => rx_q_if .ge 47 43)), none, none, none, none, none, none, some (.inl (fun _ => rx_q_loadA 0 1))]
noncomputable def rxE102_3 : List (Option rx_Ent) := [some (.inl (fun _ => rx_q_get (11, 12, 3, true, false))), none, none, some (.inl (fun _ => rx_q_load 0 2 1)), some (.inr (.inr (57, rxM57, rx_q_vcall rxM102 rxM57 1 4))), none, none, some (.inr (.inl (rx_q_reti 0 0)))]
noncomputable def rxE102 : List (List (Option rx_Ent)) := [rxE102_0, rxE102_1, rxE102_2, rxE102_3]
noncomputable def rxE103_0 : List (Option rx_Ent) := [some (.inl (fun _ => rx_q_loadA 0 1)), some (.inl (fun _ => rx_h_push (rx_n 0) 1)), some (.inl (fun _ => rx_q_put (12, 0, 0, false, false) false)), none, none, some (.inl (fun _ => rx_q_load 0 1 1)), some (.inl (fun _ => rx_h_i2l)), some (.inl (fun _ => rx_h_push (.inr (1, (0, 0))) 1)), some (.inl (fun _ => rx_h_push (.inr (1, (0, 1))) 1)), some (.inr (.inr (19, rxM19, rx_q_scall rxM103 rxM19 3))), none, none, some (.inl (fun _ => rx_q_if .ne 17 15)), none, none, some (.inl (fun _ => rx_h_push (rx_n (-1)) 1))]
noncomputable def rxE103_1 : List (Option rx_Ent) := [some (.inr (.inl (rx_q_reti 0 0))), some (.inl (fun _ => rx_q_loadA 0 1)), some (.inl (fun _ => rx_h_push (rx_n 0) 1)), some (.inl (fun _ => rx_h_push (rx_n 0) 1)), some (.inr (.inr (175, rxM175, rx_q_vcall rxM103 rxM175 2 12))), none, none, some (.inl (fun _ => rx_h_istore 3 2 1)), some (.inl (fun _ => rx_q_load 0 1 1)), some (.inl (fun _ => rx_q_if .ne 32 28)), none, none, some (.inl (fun _ => rx_q_load 0 2 1)), some (.inl (fun _ => rx_q_goto 36))]
noncomputable def rxE103_2 : List (Option rx_Ent) := [some (.inl (fun _ => rx_q_loadA 0 1)), some (.inl (fun _ => rx_q_get (12, 69, 0, false, false))), none, none, some (.inr (.inl (rx_q_reti 0 0)))]
noncomputable def rxE103 : List (List (Option rx_Ent)) := [rxE103_0, rxE103_1, rxE103_2]
noncomputable def rxE104_0 : List (Option rx_Ent) := [some (.inl (fun _ => rx_q_load 0 1 1)), some (.inl (fun _ => rx_q_if .lt 19 4)), none, none, some (.inl (fun _ => rx_q_load 0 1 1)), some (.inl (fun _ => rx_h_push (rx_n 4) 1)), some (.inl (fun _ => rx_q_icmp .ge 19 9)), none, none, some (.inl (fun _ => rx_q_load 0 2 1)), some (.inl (fun _ => rx_q_if .lt 19 13)), none, none, some (.inl (fun _ => rx_q_load 0 2 1)), some (.inl (fun _ => rx_h_push (rx_n 6) 2))]
noncomputable def rxE104_1 : List (Option rx_Ent) := [some (.inl (fun _ => rx_q_icmp .lt 21 19)), none, none, some (.inl (fun _ => rx_h_push (rx_n (-1)) 1)), some (.inr (.inl (rx_q_reti 0 0))), some (.inl (fun _ => rx_q_loadA 0 1)), some (.inl (fun _ => rx_q_get (11, 12, 3, true, false))), none, none, some (.inl (fun _ => rx_q_loadA 0 1)), some (.inl (fun _ => rx_q_get (11, 0, 3, true, false))), none, none, some (.inl (fun _ => rx_q_get (10, 12, 3, true, true)))]
noncomputable def rxE104_2 : List (Option rx_Ent) := [some (.inr (.inr (55, rxM55, rx_q_vcall rxM104 rxM55 1 4))), none, none, some (.inl (fun _ => rx_q_loadA 0 1)), some (.inl (fun _ => rx_q_get (11, 12, 3, true, false))), none, none, some (.inr (.inr (56, rxM56, rx_q_vcall rxM104 rxM56 0 4))), none, none, some (.inl (fun _ => rx_h_istore 4 3 1)), some (.inl (fun _ => rx_q_load 0 3 1)), some (.inl (fun _ => rx_q_if .ge 51 47))]
noncomputable def rxE104_3 : List (Option rx_Ent) := [none, none, none, some (.inl (fun _ => rx_q_loadA 0 1)), some (.inl (fun _ => rx_q_get (11, 12, 3, true, false))), none, none, some (.inl (fun _ => rx_q_load 0 3 1)), some (.inl (fun _ => rx_q_load 0 1 1)), some (.inl (fun _ => rx_q_load 0 2 1)), some (.inr (.inr (58, rxM58, rx_q_vcall rxM104 rxM58 3 4))), none, none, some (.inr (.inl (rx_q_reti 0 0)))]
noncomputable def rxE104 : List (List (Option rx_Ent)) := [rxE104_0, rxE104_1, rxE104_2, rxE104_3]
noncomputable def rxE105_0 : List (Option rx_Ent) := [some (.inl (fun _ => rx_q_loadA 0 1)), some (.inl (fun _ => rx_h_push (rx_n 0) 1)), some (.inl (fun _ => rx_q_put (12, 0, 0, false, false) false)), none, none, some (.inl (fun _ => rx_q_load 0 1 1)), some (.inl (fun _ => rx_h_i2l)), some (.inl (fun _ => rx_h_push (.inr (1, (0, 0))) 1)), some (.inl (fun _ => rx_h_push (.inr (1, (0, 3))) 3)), none, none, some (.inr (.inr (19, rxM19, rx_q_scall rxM105 rxM19 3))), none, none, some (.inl (fun _ => rx_q_if .eq 29 17))]
noncomputable def rxE105_1 : List (Option rx_Ent) := [none, some (.inl (fun _ => rx_q_load 0 2 1)), some (.inl (fun _ => rx_h_i2l)), some (.inl (fun _ => rx_h_push (.inr (1, (0, 0))) 1)), some (.inl (fun _ => rx_h_push (.inr (1, (0, 5))) 3)), none, none, some (.inr (.inr (19, rxM19, rx_q_scall rxM105 rxM19 3))), none, none, some (.inl (fun _ => rx_q_if .ne 31 29)), none, none, some (.inl (fun _ => rx_h_push (rx_n (-1)) 1)), some (.inr (.inl (rx_q_reti 0 0))), some (.inl (fun _ => rx_q_loadA 0 1))]
noncomputable def rxE105_2 : List (Option rx_Ent) := [some (.inl (fun _ => rx_q_load 0 1 1)), some (.inl (fun _ => rx_q_load 0 2 1)), some (.inr (.inr (175, rxM175, rx_q_vcall rxM105 rxM175 2 12))), none, none, some (.inl (fun _ => rx_h_push (rx_n (-1)) 1)), some (.inl (fun _ => rx_q_icmp .ne 45 41)), none, none, none, none, none, none, some (.inl (fun _ => rx_q_loadA 0 1)), some (.inl (fun _ => rx_q_get (12, 70, 0, false, false)))]
noncomputable def rxE105_3 : List (Option rx_Ent) := [none, some (.inr (.inl (rx_q_reti 0 0)))]
noncomputable def rxE105 : List (List (Option rx_Ent)) := [rxE105_0, rxE105_1, rxE105_2, rxE105_3]
noncomputable def rxE106_0 : List (Option rx_Ent) := [some (.inl (fun _ => rx_q_load 0 1 1)), some (.inl (fun _ => rx_q_if .lt 21 4)), none, none, some (.inl (fun _ => rx_q_load 0 1 1)), some (.inl (fun _ => rx_h_push (rx_n 1000000) 3)), none, none, some (.inl (fun _ => rx_q_icmp .gt 21 11)), none, none, some (.inl (fun _ => rx_q_load 0 3 1)), some (.inl (fun _ => rx_q_if .lt 21 15)), none, none, some (.inl (fun _ => rx_q_load 0 3 1))]
noncomputable def rxE106_1 : List (Option rx_Ent) := [some (.inl (fun _ => rx_h_push (rx_n 100) 2)), none, some (.inl (fun _ => rx_q_icmp .le 27 21)), none, none, some (.inl (fun _ => rx_q_loadA 0 1)), some (.inl (fun _ => rx_h_push (rx_n (-1)) 1)), some (.inr (.inr (39, rxM39, rx_q_vcall rxM106 rxM39 1 11))), none, none, some (.inr (.inl (rx_q_reti 0 0))), some (.inl (fun _ => rx_q_loadA 0 1)), some (.inl (fun _ => rx_q_get (11, 0, 3, true, false))), none, none, some (.inl (fun _ => rx_q_load 0 2 1))]
noncomputable def rxE106_2 : List (Option rx_Ent) := [some (.inr (.inr (42, rxM42, rx_q_vcall rxM106 rxM42 1 10))), none, none, some (.inl (fun _ => rx_q_if .ne 45 38)), none, none, some (.inl (fun _ => rx_q_loadA 0 1)), some (.inl (fun _ => rx_h_push (rx_n (-2)) 2)), none, some (.inr (.inr (39, rxM39, rx_q_vcall rxM106 rxM39 1 11))), none, none, some (.inr (.inl (rx_q_reti 0 0)))]
noncomputable def rxE106 : List (List (Option rx_Ent)) := [rxE106_0, rxE106_1, rxE106_2]
noncomputable def rxE107_0 : List (Option rx_Ent) := [some (.inl (fun _ => rx_q_loadA 0 1)), some (.inl (fun _ => rx_h_push (rx_n 0) 1)), some (.inl (fun _ => rx_q_put (12, 0, 0, false, false) false)), none, none, some (.inl (fun _ => rx_q_load 0 1 1)), some (.inl (fun _ => rx_h_i2l)), some (.inl (fun _ => rx_h_push (.inr (1, (0, 0))) 1)), some (.inl (fun _ => rx_h_push (.inr (1, (0, 1000000))) 3)), none, none, some (.inr (.inr (19, rxM19, rx_q_scall rxM107 rxM19 3))), none, none, some (.inl (fun _ => rx_q_if .eq 29 17))]
noncomputable def rxE107_1 : List (Option rx_Ent) := [none, some (.inl (fun _ => rx_q_load 0 3 1)), some (.inl (fun _ => rx_h_i2l)), some (.inl (fun _ => rx_h_push (.inr (1, (0, 0))) 1)), some (.inl (fun _ => rx_h_push (.inr (1, (0, 100))) 3)), none, none, some (.inr (.inr (19, rxM19, rx_q_scall rxM107 rxM19 3))), none, none, some (.inl (fun _ => rx_q_if .ne 35 29)), none, none, some (.inl (fun _ => rx_q_loadA 0 1)), some (.inl (fun _ => rx_h_push (rx_n (-1)) 1)), some (.inr (.inr (156, rxM156, rx_q_vcall rxM107 rxM156 1 12)))]
noncomputable def rxE107_2 : List (Option rx_Ent) := [none, none, some (.inr (.inl (rx_q_reti 0 0))), some (.inl (fun _ => rx_q_loadA 0 1)), some (.inl (fun _ => rx_q_load 0 2 1)), some (.inr (.inr (158, rxM158, rx_q_vcall rxM107 rxM158 1 12))), none, none, some (.inl (fun _ => rx_q_if .ne 50 43)), none, none, some (.inl (fun _ => rx_q_loadA 0 1)), some (.inl (fun _ => rx_h_push (rx_n (-2)) 2)), none, some (.inr (.inr (156, rxM156, rx_q_vcall rxM107 rxM156 1 12)))]
noncomputable def rxE107_3 : List (Option rx_Ent) := [none, some (.inr (.inl (rx_q_reti 0 0)))]
noncomputable def rxE107 : List (List (Option rx_Ent)) := [rxE107_0, rxE107_1, rxE107_2, rxE107_3]
noncomputable def rxE108_0 : List (Option rx_Ent) := [some (.inl (fun _ => rx_q_loadA 0 1)), some (.inl (fun _ => rx_q_get (11, 16, 1, false, false))), none, none, some (.inl (fun _ => rx_q_if .ne 9 7)), none, none, some (.inl (fun _ => rx_h_push (rx_n (-1)) 1)), some (.inr (.inl (rx_q_reti 0 0)))]
noncomputable def rxE108 : List (List (Option rx_Ent)) := [rxE108_0]
noncomputable def rxE109_0 : List (Option rx_Ent) := [some (.inl (fun _ => rx_q_loadA 0 1)), some (.inl (fun _ => rx_h_push (rx_n 0) 1)), some (.inl (fun _ => rx_q_put (12, 0, 0, false, false) false)), none, none, some (.inl (fun _ => rx_q_loadA 0 1)), some (.inl (fun _ => rx_q_get (12, 75, 1, false, false))), none, none, some (.inl (fun _ => rx_q_if .eq 22 12))]
noncomputable def rxE109_1 : List (Option rx_Ent) := [none, none, none, none, none, none, some (.inl (fun _ => rx_h_push (rx_n (-1)) 1)), some (.inr (.inl (rx_q_reti 0 0)))]
noncomputable def rxE109 : List (List (Option rx_Ent)) := [rxE109_0, rxE109_1]
noncomputable def rxE110_0 : List (Option rx_Ent) := [some (.inl (fun _ => rx_q_load 0 1 1)), some (.inl (fun _ => rx_q_if .lt 9 4)), none, none, some (.inl (fun _ => rx_q_load 0 1 1)), some (.inl (fun _ => rx_h_push (rx_n 2) 1)), some (.inl (fun _ => rx_q_icmp .lt 15 9)), none, none, some (.inl (fun _ => rx_q_loadA 0 1)), some (.inl (fun _ => rx_h_push (rx_n (-1)) 1)), some (.inr (.inr (39, rxM39, rx_q_vcall rxM110 rxM39 1 11))), none, none, some (.inr (.inl (rx_q_reti 0 0))), some (.inl (fun _ => rx_q_loadA 0 1))]
noncomputable def rxE110_1 : List (Option rx_Ent) := [some (.inl (fun _ => rx_q_get (11, 1, 3, true, false))), none, none, some (.inl (fun _ => rx_q_load 0 1 1)), some (.inl (fun _ => rx_q_ald rx_isRef)), some (.inl (fun _ => rx_q_loadA 0 1)), some (.inl (fun _ => rx_q_get (11, 0, 3, true, false))), none, none, some (.inr (.inr (59, rxM59, rx_q_vcall rxM110 rxM59 1 10))), none, none, some (.inl (fun _ => rx_q_loadA 0 1)), some (.inl (fun _ => rx_q_get (11, 2, 3, true, false)))]
noncomputable def rxE110_2 : List (Option rx_Ent) := [some (.inl (fun _ => rx_q_load 0 1 1)), some (.inl (fun _ => rx_h_push (rx_n 1) 1)), some (.inl (fun _ => rx_q_ast (rx_isTc 1) (fun I _ _ v => rx_fit I 1 v))), some (.inl (fun _ => rx_q_loadA 0 1)), some (.inl (fun _ => rx_h_push (rx_n 0) 1)), some (.inr (.inr (41, rxM41, rx_q_vcall rxM110 rxM41 1 11))), none, none, some (.inr (.inl (rx_q_reti 0 0)))]
noncomputable def rxE110 : List (List (Option rx_Ent)) := [rxE110_0, rxE110_1, rxE110_2]
noncomputable def rxE111_0 : List (Option rx_Ent) := [some (.inl (fun _ => rx_q_loadA 0 1)), some (.inl (fun _ => rx_h_push (rx_n 0) 1)), some (.inl (fun _ => rx_q_put (12, 0, 0, false, false) false)), none, none, some (.inl (fun _ => rx_q_load 0 1 1)), some (.inl (fun _ => rx_h_i2l)), some (.inl (fun _ => rx_h_push (.inr (1, (0, 0))) 1)), some (.inl (fun _ => rx_h_push (.inr (1, (0, 1))) 1)), some (.inr (.inr (19, rxM19, rx_q_scall rxM111 rxM19 3))), none, none, some (.inl (fun _ => rx_q_if .ne 21 15)), none, none, some (.inl (fun _ => rx_q_loadA 0 1))]
noncomputable def rxE111_1 : List (Option rx_Ent) := [some (.inl (fun _ => rx_h_push (rx_n (-1)) 1)), some (.inr (.inr (156, rxM156, rx_q_vcall rxM111 rxM156 1 12))), none, none, some (.inr (.inl (rx_q_reti 0 0))), some (.inl (fun _ => rx_h_push (rx_n 0) 1)), some (.inl (fun _ => rx_h_istore 3 2 1)), some (.inl (fun _ => rx_q_load 0 2 1)), some (.inl (fun _ => rx_x_image))]
noncomputable def rxE111_3 : List (Option rx_Ent) := [none, none, none, none, none, none, some (.inl (fun _ => rx_q_loadA 0 1)), some (.inl (fun _ => rx_q_get (12, 5, 3, true, false))), none, none, some (.inl (fun _ => rx_q_load 0 1 1)), some (.inl (fun _ => rx_h_push (rx_n 1) 1)), some (.inl (fun _ => rx_q_ast (rx_isTc 1) (fun I _ _ v => rx_fit I 1 v))), some (.inl (fun _ => rx_q_loadA 0 1)), some (.inl (fun _ => rx_h_push (rx_n 0) 1)), some (.inr (.inr (156, rxM156, rx_q_vcall rxM111 rxM156 1 12)))]
noncomputable def rxE111_4 : List (Option rx_Ent) := [none, none, some (.inr (.inl (rx_q_reti 0 0)))]
noncomputable def rxE111 : List (List (Option rx_Ent)) := [rxE111_0, rxE111_1, [], rxE111_3, rxE111_4]
noncomputable def rxE112_0 : List (Option rx_Ent) := [some (.inl (fun _ => rx_q_load 0 1 1)), some (.inl (fun _ => rx_q_if .lt 9 4)), none, none, some (.inl (fun _ => rx_q_load 0 1 1)), some (.inl (fun _ => rx_h_push (rx_n 2) 1)), some (.inl (fun _ => rx_q_icmp .lt 15 9)), none, none, some (.inl (fun _ => rx_q_loadA 0 1)), some (.inl (fun _ => rx_h_push (rx_n (-1)) 1)), some (.inr (.inr (39, rxM39, rx_q_vcall rxM112 rxM39 1 11))), none, none, some (.inr (.inl (rx_q_reti 0 0))), some (.inl (fun _ => rx_q_loadA 0 1))]
noncomputable def rxE112_1 : List (Option rx_Ent) := [some (.inl (fun _ => rx_q_get (11, 2, 3, true, false))), none, none, some (.inl (fun _ => rx_q_load 0 1 1)), some (.inl (fun _ => rx_q_ald (rx_isTc 1))), some (.inl (fun _ => rx_q_if .ne 31 24)), none, none, some (.inl (fun _ => rx_q_loadA 0 1)), some (.inl (fun _ => rx_h_push (rx_n (-2)) 2)), none, some (.inr (.inr (39, rxM39, rx_q_vcall rxM112 rxM39 1 11))), none, none, some (.inr (.inl (rx_q_reti 0 0)))]
noncomputable def rxE112 : List (List (Option rx_Ent)) := [rxE112_0, rxE112_1]
noncomputable def rxE113_0 : List (Option rx_Ent) := [some (.inl (fun _ => rx_q_loadA 0 1)), some (.inl (fun _ => rx_h_push (rx_n 0) 1)), some (.inl (fun _ => rx_q_put (12, 0, 0, false, false) false)), none, none, some (.inl (fun _ => rx_q_load 0 1 1)), some (.inl (fun _ => rx_h_i2l)), some (.inl (fun _ => rx_h_push (.inr (1, (0, 0))) 1)), some (.inl (fun _ => rx_h_push (.inr (1, (0, 1))) 1)), some (.inr (.inr (19, rxM19, rx_q_scall rxM113 rxM19 3))), none, none, some (.inl (fun _ => rx_q_if .ne 21 15)), none, none, some (.inl (fun _ => rx_q_loadA 0 1))]
noncomputable def rxE113_1 : List (Option rx_Ent) := [some (.inl (fun _ => rx_h_push (rx_n (-1)) 1)), some (.inr (.inr (156, rxM156, rx_q_vcall rxM113 rxM156 1 12))), none, none, some (.inr (.inl (rx_q_reti 0 0))), some (.inl (fun _ => rx_q_loadA 0 1)), some (.inl (fun _ => rx_q_get (12, 5, 3, true, false))), none, none, some (.inl (fun _ => rx_q_load 0 1 1)), some (.inl (fun _ => rx_q_ald (rx_isTc 1))), some (.inl (fun _ => rx_q_if .ne 37 30)), none, none, some (.inl (fun _ => rx_q_loadA 0 1)), some (.inl (fun _ => rx_h_push (rx_n (-2)) 2))]
noncomputable def rxE113_2 : List (Option rx_Ent) := [none, some (.inr (.inr (156, rxM156, rx_q_vcall rxM113 rxM156 1 12))), none, none, some (.inr (.inl (rx_q_reti 0 0)))]
noncomputable def rxE113 : List (List (Option rx_Ent)) := [rxE113_0, rxE113_1, rxE113_2]
noncomputable def rxE114_0 : List (Option rx_Ent) := [some (.inl (fun _ => rx_q_load 0 1 1)), some (.inl (fun _ => rx_h_push (rx_n 7) 2)), none, some (.inl (fun _ => rx_q_icmp .lt 22 6)), none, none, some (.inl (fun _ => rx_q_load 0 1 1)), some (.inl (fun _ => rx_h_push (rx_n 11) 2)), none, some (.inl (fun _ => rx_q_icmp .gt 22 12)), none, none, some (.inl (fun _ => rx_q_loadA 0 1)), some (.inl (fun _ => rx_q_get (11, 9, 3, true, false)))]
noncomputable def rxE114_1 : List (Option rx_Ent) := [some (.inl (fun _ => rx_q_load 0 1 1)), some (.inl (fun _ => rx_h_push (rx_n 7) 2)), none, some (.inl (fun _ => rx_h_bin 1)), some (.inl (fun _ => rx_q_ald (rx_isTc 0))), some (.inr (.inl (rx_q_reti 0 0))), some (.inl (fun _ => rx_q_load 0 1 1)), some (.inl (fun _ => rx_h_push (rx_n 13) 2)), none, some (.inl (fun _ => rx_q_icmp .lt 47 28)), none, none, some (.inl (fun _ => rx_q_load 0 1 1)), some (.inl (fun _ => rx_h_push (rx_n 15) 2)), none, some (.inl (fun _ => rx_q_icmp .gt 47 34))]
noncomputable def rxE114_2 : List (Option rx_Ent) := [none, none, some (.inl (fun _ => rx_q_loadA 0 1)), some (.inl (fun _ => rx_q_get (11, 0, 3, true, false))), none, none, some (.inl (fun _ => rx_q_get (10, 13, 3, true, true))), none, none, some (.inl (fun _ => rx_q_load 0 1 1)), some (.inl (fun _ => rx_h_push (rx_n 13) 2)), none, some (.inl (fun _ => rx_h_bin 1)), some (.inl (fun _ => rx_q_ald (rx_isTc 0))), some (.inr (.inl (rx_q_reti 0 0))), some (.inl (fun _ => rx_q_load 0 1 1))]
noncomputable def rxE114_3 : List (Option rx_Ent) := [some (.inl (fun _ => rx_h_table 135 0 12 #[68, 76, 87, 95, 103, 111, 122, 135, 135, 135, 135, 135, 127]))]
noncomputable def rxE114_7 : List (Option rx_Ent) := [none, none, none, none, some (.inl (fun _ => rx_q_loadA 0 1)), some (.inl (fun _ => rx_q_get (11, 0, 3, true, false))), none, none, some (.inl (fun _ => rx_q_get (10, 0, 0, false, true))), none, none, some (.inr (.inl (rx_q_reti 0 0))), some (.inl (fun _ => rx_q_loadA 0 1)), some (.inl (fun _ => rx_q_get (11, 0, 3, true, false)))]
noncomputable def rxE114_8 : List (Option rx_Ent) := [some (.inl (fun _ => rx_q_get (10, 4, 3, true, true))), none, none, some (.inl (fun _ => rx_q_get (5, 0, 0, false, true))), none, none, some (.inr (.inl (rx_q_reti 0 0))), some (.inl (fun _ => rx_q_loadA 0 1)), some (.inl (fun _ => rx_q_get (11, 0, 3, true, false))), none, none, some (.inl (fun _ => rx_q_get (10, 5, 0, false, true))), none, none, some (.inr (.inl (rx_q_reti 0 0))), some (.inl (fun _ => rx_q_loadA 0 1))]
noncomputable def rxE114_9 : List (Option rx_Ent) := [some (.inl (fun _ => rx_q_get (11, 0, 3, true, false))), none, none, some (.inl (fun _ => rx_q_get (10, 14, 0, false, true))), none, none, some (.inr (.inl (rx_q_reti 0 0))), some (.inl (fun _ => rx_q_loadA 0 1)), some (.inl (fun _ => rx_q_get (11, 0, 3, true, false))), none, none, some (.inl (fun _ => rx_q_get (10, 10, 0, false, true))), none, none, some (.inr (.inl (rx_q_reti 0 0))), some (.inl (fun _ => rx_q_loadA 0 1))]
noncomputable def rxE114_10 : List (Option rx_Ent) := [some (.inl (fun _ => rx_q_get (11, 0, 3, true, false))), none, none, some (.inl (fun _ => rx_q_get (10, 12, 3, true, true))), none, none, some (.inl (fun _ => rx_q_get (2, 0, 0, false, true))), none, none, some (.inr (.inl (rx_q_reti 0 0))), some (.inl (fun _ => rx_q_loadA 0 1)), some (.inl (fun _ => rx_q_get (11, 4, 0, false, false))), none, none, some (.inr (.inl (rx_q_reti 0 0))), some (.inl (fun _ => rx_q_loadA 0 1))]
noncomputable def rxE114_11 : List (Option rx_Ent) := [some (.inl (fun _ => rx_q_get (11, 0, 3, true, false))), none, none, some (.inl (fun _ => rx_q_get (10, 15, 0, false, true))), none, none, some (.inr (.inl (rx_q_reti 0 0))), some (.inl (fun _ => rx_h_push (rx_n (-1)) 1)), some (.inr (.inl (rx_q_reti 0 0)))]
noncomputable def rxE114 : List (List (Option rx_Ent)) := [rxE114_0, rxE114_1, rxE114_2, rxE114_3, [], [], [], rxE114_7, rxE114_8, rxE114_9, rxE114_10, rxE114_11]
noncomputable def rxE115_0 : List (Option rx_Ent) := [some (.inl (fun _ => rx_q_loadA 0 1)), some (.inl (fun _ => rx_h_push (rx_n 0) 1)), some (.inl (fun _ => rx_q_put (12, 0, 0, false, false) false)), none, none, some (.inl (fun _ => rx_q_load 0 1 1)), some (.inl (fun _ => rx_h_table 157 0 12 #[66, 73, 80, 87, 94, 101, 109, 114, 121, 128, 135, 142, 150]))]
noncomputable def rxE115_4 : List (Option rx_Ent) := [none, none, none, none, none, none, none, none, some (.inl (fun _ => rx_q_loadA 0 1)), some (.inl (fun _ => rx_q_get (12, 3, 3, true, false))), none, none, some (.inl (fun _ => rx_h_push (rx_n 0) 1)), some (.inl (fun _ => rx_q_ald (rx_isTc 0))), some (.inr (.inl (rx_q_reti 0 0))), some (.inl (fun _ => rx_q_loadA 0 1))]
noncomputable def rxE115_5 : List (Option rx_Ent) := [some (.inl (fun _ => rx_q_get (12, 3, 3, true, false))), none, none, some (.inl (fun _ => rx_h_push (rx_n 1) 1)), some (.inl (fun _ => rx_q_ald (rx_isTc 0))), some (.inr (.inl (rx_q_reti 0 0))), some (.inl (fun _ => rx_q_loadA 0 1)), some (.inl (fun _ => rx_q_get (12, 3, 3, true, false))), none, none, some (.inl (fun _ => rx_h_push (rx_n 2) 1)), some (.inl (fun _ => rx_q_ald (rx_isTc 0))), some (.inr (.inl (rx_q_reti 0 0))), some (.inl (fun _ => rx_q_loadA 0 1)), some (.inl (fun _ => rx_q_get (12, 3, 3, true, false)))]
noncomputable def rxE115_6 : List (Option rx_Ent) := [none, some (.inl (fun _ => rx_h_push (rx_n 3) 1)), some (.inl (fun _ => rx_q_ald (rx_isTc 0))), some (.inr (.inl (rx_q_reti 0 0))), some (.inl (fun _ => rx_q_loadA 0 1)), some (.inl (fun _ => rx_q_get (12, 3, 3, true, false))), none, none, some (.inl (fun _ => rx_h_push (rx_n 5) 1)), some (.inl (fun _ => rx_q_ald (rx_isTc 0))), some (.inr (.inl (rx_q_reti 0 0))), some (.inl (fun _ => rx_q_loadA 0 1)), some (.inl (fun _ => rx_q_get (12, 3, 3, true, false))), none, none, some (.inl (fun _ => rx_h_push (rx_n 6) 2))]
noncomputable def rxE115_7 : List (Option rx_Ent) := [none, some (.inl (fun _ => rx_q_ald (rx_isTc 0))), some (.inr (.inl (rx_q_reti 0 0))), some (.inl (fun _ => rx_q_loadA 0 1)), some (.inl (fun _ => rx_q_get (12, 8, 0, false, false))), none, none, some (.inr (.inl (rx_q_reti 0 0))), some (.inl (fun _ => rx_q_loadA 0 1)), some (.inl (fun _ => rx_q_get (12, 2, 3, true, false))), none, none, some (.inl (fun _ => rx_h_push (rx_n 1) 1)), some (.inl (fun _ => rx_q_ald (rx_isTc 0))), some (.inr (.inl (rx_q_reti 0 0))), some (.inl (fun _ => rx_q_loadA 0 1))]
noncomputable def rxE115_8 : List (Option rx_Ent) := [some (.inl (fun _ => rx_q_get (12, 2, 3, true, false))), none, none, some (.inl (fun _ => rx_h_push (rx_n 2) 1)), some (.inl (fun _ => rx_q_ald (rx_isTc 0))), some (.inr (.inl (rx_q_reti 0 0))), some (.inl (fun _ => rx_q_loadA 0 1)), some (.inl (fun _ => rx_q_get (12, 2, 3, true, false))), none, none, some (.inl (fun _ => rx_h_push (rx_n 3) 1)), some (.inl (fun _ => rx_q_ald (rx_isTc 0))), some (.inr (.inl (rx_q_reti 0 0))), some (.inl (fun _ => rx_q_loadA 0 1)), some (.inl (fun _ => rx_q_get (12, 2, 3, true, false)))]
noncomputable def rxE115_9 : List (Option rx_Ent) := [none, some (.inl (fun _ => rx_h_push (rx_n 5) 1)), some (.inl (fun _ => rx_q_ald (rx_isTc 0))), some (.inr (.inl (rx_q_reti 0 0))), some (.inl (fun _ => rx_q_loadA 0 1)), some (.inl (fun _ => rx_q_get (12, 2, 3, true, false))), none, none, some (.inl (fun _ => rx_h_push (rx_n 6) 2)), none, some (.inl (fun _ => rx_q_ald (rx_isTc 0))), some (.inr (.inl (rx_q_reti 0 0))), some (.inl (fun _ => rx_q_loadA 0 1)), some (.inl (fun _ => rx_q_get (12, 3, 3, true, false)))]
noncomputable def rxE115_10 : List (Option rx_Ent) := [some (.inl (fun _ => rx_h_push (rx_n 4) 1)), some (.inl (fun _ => rx_q_ald (rx_isTc 0))), some (.inr (.inl (rx_q_reti 0 0))), some (.inl (fun _ => rx_q_load 0 1 1)), some (.inl (fun _ => rx_h_i2l)), some (.inl (fun _ => rx_h_push (.inr (1, (0, 13))) 3)), none, none, some (.inl (fun _ => rx_h_push (.inr (1, (0, 15))) 3)), none, none, some (.inr (.inr (19, rxM19, rx_q_scall rxM115 rxM19 3))), none, none, some (.inl (fun _ => rx_q_if .eq 192 177))]
noncomputable def rxE115_11 : List (Option rx_Ent) := [none, some (.inl (fun _ => rx_q_loadA 0 1)), some (.inl (fun _ => rx_q_get (12, 3, 3, true, false))), none, none, some (.inl (fun _ => rx_h_push (rx_n 7) 2)), none, some (.inl (fun _ => rx_q_load 0 1 1)), some (.inl (fun _ => rx_h_bin 0)), some (.inl (fun _ => rx_h_push (rx_n 13) 2)), none, some (.inl (fun _ => rx_h_bin 1)), some (.inl (fun _ => rx_q_ald (rx_isTc 0))), some (.inl (fun _ => rx_q_goto 193))]
noncomputable def rxE115_12 : List (Option rx_Ent) := [some (.inl (fun _ => rx_h_push (rx_n (-1)) 1)), some (.inr (.inl (rx_q_reti 0 0)))]
noncomputable def rxE115 : List (List (Option rx_Ent)) := [rxE115_0, [], [], [], rxE115_4, rxE115_5, rxE115_6, rxE115_7, rxE115_8, rxE115_9, rxE115_10, rxE115_11, rxE115_12]
noncomputable def rxE116_0 : List (Option rx_Ent) := [some (.inl (fun _ => rx_q_loadA 0 1)), some (.inl (fun _ => rx_q_get (11, 8, 0, false, false))), none, none, some (.inr (.inl (rx_q_reti 0 0)))]
noncomputable def rxE116 : List (List (Option rx_Ent)) := [rxE116_0]
noncomputable def rxE117_0 : List (Option rx_Ent) := [some (.inl (fun _ => rx_q_loadA 0 1)), some (.inl (fun _ => rx_h_push (rx_n 0) 1)), some (.inl (fun _ => rx_q_put (12, 0, 0, false, false) false)), none, none, some (.inl (fun _ => rx_q_loadA 0 1)), some (.inl (fun _ => rx_q_get (12, 1, 0, false, false))), none, none, some (.inr (.inl (rx_q_reti 0 0)))]
noncomputable def rxE117 : List (List (Option rx_Ent)) := [rxE117_0]
noncomputable def rxE118_0 : List (Option rx_Ent) := [some (.inl (fun _ => rx_q_loadA 0 1)), some (.inl (fun _ => rx_h_push (rx_n 0) 1)), some (.inl (fun _ => rx_q_put (12, 0, 0, false, false) false)), none, none, some (.inl (fun _ => rx_q_load 0 2 1)), some (.inl (fun _ => rx_q_load 0 3 1)), some (.inr (.inr (20, rxM20, rx_q_scall rxM118 rxM20 2))), none, none, some (.inl (fun _ => rx_q_if .eq 34 13)), none, none, some (.inl (fun _ => rx_q_load 0 4 2)), none, some (.inr (.inr (21, rxM21, rx_q_scall rxM118 rxM21 1)))]
noncomputable def rxE118_1 : List (Option rx_Ent) := [none, none, some (.inl (fun _ => rx_q_if .eq 34 21)), none, none, some (.inl (fun _ => rx_q_load 0 5 2)), none, some (.inl (fun _ => rx_h_i2l)), some (.inl (fun _ => rx_h_push (.inr (1, (0, 0))) 1)), some (.inl (fun _ => rx_h_push (.inr (1, (0, 5))) 3)), none, none, some (.inr (.inr (19, rxM19, rx_q_scall rxM118 rxM19 3))), none, none, some (.inl (fun _ => rx_q_if .ne 40 34))]
noncomputable def rxE118_2 : List (Option rx_Ent) := [none, none, some (.inl (fun _ => rx_q_loadA 0 1)), some (.inl (fun _ => rx_h_push (rx_n (-1)) 1)), some (.inr (.inr (156, rxM156, rx_q_vcall rxM118 rxM156 1 12))), none, none, some (.inr (.inl (rx_q_reti 0 0))), some (.inl (fun _ => rx_q_loadA 0 1)), some (.inl (fun _ => rx_q_load 0 1 1)), some (.inr (.inr (158, rxM158, rx_q_vcall rxM118 rxM158 1 12))), none, none, some (.inl (fun _ => rx_q_if .eq 70 48))]
noncomputable def rxE118_4 : List (Option rx_Ent) := [none, none, none, none, none, none, some (.inl (fun _ => rx_q_loadA 0 1)), some (.inl (fun _ => rx_h_push (rx_n (-2)) 2)), none, some (.inr (.inr (156, rxM156, rx_q_vcall rxM118 rxM156 1 12))), none, none, some (.inr (.inl (rx_q_reti 0 0)))]
noncomputable def rxE118 : List (List (Option rx_Ent)) := [rxE118_0, rxE118_1, rxE118_2, [], rxE118_4]
noncomputable def rxE119_0 : List (Option rx_Ent) := [some (.inl (fun _ => rx_q_load 0 2 1)), some (.inl (fun _ => rx_q_load 0 3 1)), some (.inr (.inr (14, rxM14, rx_q_scall rxM119 rxM14 2))), none, none, some (.inl (fun _ => rx_q_if .ne 14 8)), none, none, some (.inl (fun _ => rx_q_loadA 0 1)), some (.inl (fun _ => rx_h_push (rx_n (-1)) 1)), some (.inr (.inr (39, rxM39, rx_q_vcall rxM119 rxM39 1 11))), none, none, some (.inr (.inl (rx_q_reti 0 0))), some (.inl (fun _ => rx_q_loadA 0 1)), some (.inl (fun _ => rx_q_get (11, 0, 3, true, false)))]
noncomputable def rxE119_1 : List (Option rx_Ent) := [none, none, some (.inl (fun _ => rx_q_load 0 1 1)), some (.inr (.inr (42, rxM42, rx_q_vcall rxM119 rxM42 1 10))), none, none, some (.inl (fun _ => rx_q_if .ne 32 25)), none, none, some (.inl (fun _ => rx_q_loadA 0 1)), some (.inl (fun _ => rx_h_push (rx_n (-2)) 2)), none, some (.inr (.inr (39, rxM39, rx_q_vcall rxM119 rxM39 1 11))), none, none, some (.inr (.inl (rx_q_reti 0 0)))]
noncomputable def rxE119 : List (List (Option rx_Ent)) := [rxE119_0, rxE119_1]
noncomputable def rxE120_0 : List (Option rx_Ent) := [some (.inl (fun _ => rx_q_loadA 0 1)), some (.inl (fun _ => rx_h_push (rx_n 0) 1)), some (.inl (fun _ => rx_q_put (12, 0, 0, false, false) false)), none, none, some (.inl (fun _ => rx_q_load 0 2 1)), some (.inl (fun _ => rx_q_load 0 3 1)), some (.inr (.inr (20, rxM20, rx_q_scall rxM120 rxM20 2))), none, none, some (.inl (fun _ => rx_q_if .ne 19 13)), none, none, some (.inl (fun _ => rx_q_loadA 0 1)), some (.inl (fun _ => rx_h_push (rx_n (-1)) 1)), some (.inr (.inr (156, rxM156, rx_q_vcall rxM120 rxM156 1 12)))]
noncomputable def rxE120_1 : List (Option rx_Ent) := [none, none, some (.inr (.inl (rx_q_reti 0 0))), some (.inl (fun _ => rx_q_loadA 0 1)), some (.inl (fun _ => rx_q_load 0 1 1)), some (.inr (.inr (158, rxM158, rx_q_vcall rxM120 rxM158 1 12))), none, none, some (.inl (fun _ => rx_q_if .eq 42 27))]
noncomputable def rxE120_2 : List (Option rx_Ent) := [none, none, none, none, none, none, none, none, none, none, some (.inl (fun _ => rx_q_loadA 0 1)), some (.inl (fun _ => rx_h_push (rx_n (-2)) 2)), none, some (.inr (.inr (156, rxM156, rx_q_vcall rxM120 rxM156 1 12)))]
noncomputable def rxE120_3 : List (Option rx_Ent) := [some (.inr (.inl (rx_q_reti 0 0)))]
noncomputable def rxE120 : List (List (Option rx_Ent)) := [rxE120_0, rxE120_1, rxE120_2, rxE120_3]
noncomputable def rxE121_0 : List (Option rx_Ent) := [some (.inl (fun _ => rx_q_loadA 0 1)), some (.inl (fun _ => rx_q_get (11, 0, 3, true, false))), none, none, some (.inl (fun _ => rx_q_load 0 1 1)), some (.inr (.inr (42, rxM42, rx_q_vcall rxM121 rxM42 1 10))), none, none, some (.inl (fun _ => rx_q_if .ne 13 11)), none, none, some (.inl (fun _ => rx_h_push (rx_n (-1)) 1)), some (.inr (.inl (rx_q_reti 0 0)))]
noncomputable def rxE121 : List (List (Option rx_Ent)) := [rxE121_0]
noncomputable def rxE122_0 : List (Option rx_Ent) := [some (.inl (fun _ => rx_q_loadA 0 1)), some (.inl (fun _ => rx_h_push (rx_n 0) 1)), some (.inl (fun _ => rx_q_put (12, 0, 0, false, false) false)), none, none, some (.inl (fun _ => rx_q_loadA 0 1)), some (.inl (fun _ => rx_q_load 0 1 1)), some (.inr (.inr (158, rxM158, rx_q_vcall rxM122 rxM158 1 12))), none, none, some (.inl (fun _ => rx_q_if .eq 59 13))]
noncomputable def rxE122_3 : List (Option rx_Ent) := [none, none, none, none, none, none, none, none, none, none, none, some (.inl (fun _ => rx_h_push (rx_n (-1)) 1)), some (.inr (.inl (rx_q_reti 0 0)))]
noncomputable def rxE122 : List (List (Option rx_Ent)) := [rxE122_0, [], [], rxE122_3]
noncomputable def rxE123_0 : List (Option rx_Ent) := [some (.inl (fun _ => rx_q_loadA 0 1)), some (.inl (fun _ => rx_q_get (11, 0, 3, true, false))), none, none, some (.inl (fun _ => rx_q_load 0 1 1)), some (.inr (.inr (42, rxM42, rx_q_vcall rxM123 rxM42 1 10))), none, none, some (.inl (fun _ => rx_q_if .ne 13 11)), none, none, some (.inl (fun _ => rx_h_push (rx_n (-1)) 1)), some (.inr (.inl (rx_q_reti 0 0)))]
noncomputable def rxE123 : List (List (Option rx_Ent)) := [rxE123_0]
noncomputable def rxE124_0 : List (Option rx_Ent) := [some (.inl (fun _ => rx_q_loadA 0 1)), some (.inl (fun _ => rx_h_push (rx_n 0) 1)), some (.inl (fun _ => rx_q_put (12, 0, 0, false, false) false)), none, none, some (.inl (fun _ => rx_q_loadA 0 1)), some (.inl (fun _ => rx_q_load 0 1 1)), some (.inr (.inr (158, rxM158, rx_q_vcall rxM124 rxM158 1 12))), none, none, some (.inl (fun _ => rx_q_if .eq 25 13))]
noncomputable def rxE124_1 : List (Option rx_Ent) := [none, none, none, none, none, none, none, none, none, some (.inl (fun _ => rx_h_push (rx_n (-1)) 1)), some (.inr (.inl (rx_q_reti 0 0)))]
noncomputable def rxE124 : List (List (Option rx_Ent)) := [rxE124_0, rxE124_1]
noncomputable def rxE125_0 : List (Option rx_Ent) := [some (.inl (fun _ => rx_q_load 0 1 1)), some (.inl (fun _ => rx_q_if .lt 30 4)), none, none, some (.inl (fun _ => rx_q_load 0 1 1)), some (.inl (fun _ => rx_h_push (rx_n 200) 3)), none, none, some (.inl (fun _ => rx_q_icmp .gt 30 11)), none, none, some (.inl (fun _ => rx_q_load 0 2 1)), some (.inl (fun _ => rx_q_load 0 1 1)), some (.inl (fun _ => rx_q_icmp .le 30 16))]
noncomputable def rxE125_1 : List (Option rx_Ent) := [some (.inl (fun _ => rx_q_load 0 2 1)), some (.inl (fun _ => rx_h_push (rx_n 300) 3)), none, none, some (.inl (fun _ => rx_q_icmp .gt 30 23)), none, none, some (.inl (fun _ => rx_q_load 0 3 1)), some (.inr (.inr (15, rxM15, rx_q_scall rxM125 rxM15 1))), none, none, some (.inl (fun _ => rx_q_if .ne 36 30)), none, none, some (.inl (fun _ => rx_q_loadA 0 1)), some (.inl (fun _ => rx_h_push (rx_n (-1)) 1))]
noncomputable def rxE125_2 : List (Option rx_Ent) := [some (.inr (.inr (39, rxM39, rx_q_vcall rxM125 rxM39 1 11))), none, none, some (.inr (.inl (rx_q_reti 0 0))), some (.inl (fun _ => rx_q_loadA 0 1)), some (.inl (fun _ => rx_q_get (11, 0, 3, true, false))), none, none, some (.inl (fun _ => rx_q_get (10, 4, 3, true, true))), none, none, some (.inl (fun _ => rx_q_get (5, 0, 0, false, true))), none, none, some (.inl (fun _ => rx_h_push (rx_n 8) 2))]
noncomputable def rxE125_3 : List (Option rx_Ent) := [some (.inl (fun _ => rx_q_icmp .lt 58 51)), none, none, none, none, none, none, none, none, none, some (.inl (fun _ => rx_q_loadA 0 1)), some (.inl (fun _ => rx_q_loadA 0 1)), some (.inl (fun _ => rx_q_get (11, 0, 3, true, false))), none, none, some (.inl (fun _ => rx_q_get (10, 4, 3, true, true)))]
noncomputable def rxE125_4 : List (Option rx_Ent) := [none, none, some (.inl (fun _ => rx_q_load 0 1 1)), some (.inl (fun _ => rx_q_load 0 2 1)), some (.inl (fun _ => rx_q_load 0 3 1)), some (.inr (.inr (43, rxM43, rx_q_vcall rxM125 rxM43 3 5))), none, none, some (.inr (.inr (41, rxM41, rx_q_vcall rxM125 rxM41 1 11))), none, none, some (.inr (.inl (rx_q_reti 0 0)))]
noncomputable def rxE125 : List (List (Option rx_Ent)) := [rxE125_0, rxE125_1, rxE125_2, rxE125_3, rxE125_4]
noncomputable def rxE126_0 : List (Option rx_Ent) := [some (.inl (fun _ => rx_q_loadA 0 1)), some (.inl (fun _ => rx_h_push (rx_n 0) 1)), some (.inl (fun _ => rx_q_put (12, 0, 0, false, false) false)), none, none, some (.inl (fun _ => rx_q_load 0 1 1)), some (.inl (fun _ => rx_h_i2l)), some (.inl (fun _ => rx_h_push (.inr (1, (0, 0))) 1)), some (.inl (fun _ => rx_h_push (.inr (1, (0, 200))) 3)), none, none, some (.inr (.inr (19, rxM19, rx_q_scall rxM126 rxM19 3))), none, none, some (.inl (fun _ => rx_q_if .eq 44 17))]
noncomputable def rxE126_1 : List (Option rx_Ent) := [none, some (.inl (fun _ => rx_q_load 0 2 1)), some (.inl (fun _ => rx_h_i2l)), some (.inl (fun _ => rx_q_load 0 1 1)), some (.inl (fun _ => rx_h_i2l)), some (.inl (fun _ => rx_h_push (.inr (1, (0, 1))) 1)), some (.inl (fun _ => rx_h_binL 0)), some (.inl (fun _ => rx_h_push (.inr (1, (0, 300))) 3)), none, none, some (.inr (.inr (19, rxM19, rx_q_scall rxM126 rxM19 3))), none, none, some (.inl (fun _ => rx_q_if .eq 44 32))]
noncomputable def rxE126_2 : List (Option rx_Ent) := [some (.inl (fun _ => rx_q_load 0 3 1)), some (.inl (fun _ => rx_h_i2l)), some (.inl (fun _ => rx_h_push (.inr (1, (0, 1))) 1)), some (.inl (fun _ => rx_h_push (.inr (1, (0, 9))) 3)), none, none, some (.inr (.inr (19, rxM19, rx_q_scall rxM126 rxM19 3))), none, none, some (.inl (fun _ => rx_q_if .ne 50 44)), none, none, some (.inl (fun _ => rx_q_loadA 0 1)), some (.inl (fun _ => rx_h_push (rx_n (-1)) 1)), some (.inr (.inr (156, rxM156, rx_q_vcall rxM126 rxM156 1 12)))]
noncomputable def rxE126_3 : List (Option rx_Ent) := [none, some (.inr (.inl (rx_q_reti 0 0))), some (.inl (fun _ => rx_q_loadA 0 1)), some (.inl (fun _ => rx_q_get (12, 3, 3, true, false))), none, none, some (.inl (fun _ => rx_h_push (rx_n 1) 1)), some (.inl (fun _ => rx_q_ald (rx_isTc 0))), some (.inl (fun _ => rx_h_istore 5 4 2)), none, some (.inl (fun _ => rx_q_load 0 4 2)), none, some (.inl (fun _ => rx_h_push (rx_n 8) 2)), none, some (.inl (fun _ => rx_q_icmp .ne 72 65))]
noncomputable def rxE126_4 : List (Option rx_Ent) := [none, none, none, none, none, none, none, none, some (.inl (fun _ => rx_q_loadA 0 1)), some (.inl (fun _ => rx_q_get (12, 3, 3, true, false))), none, none, some (.inl (fun _ => rx_h_push (rx_n 238) 3)), none, none, some (.inl (fun _ => rx_h_push (rx_n 3) 1))]
noncomputable def rxE126_5 : List (Option rx_Ent) := [some (.inl (fun _ => rx_q_load 0 4 2)), none, some (.inl (fun _ => rx_h_bin 2)), some (.inl (fun _ => rx_h_bin 0)), some (.inl (fun _ => rx_q_load 0 1 1)), some (.inl (fun _ => rx_q_ast (rx_isTc 0) (fun I _ _ v => rx_fit I 0 v))), some (.inl (fun _ => rx_q_loadA 0 1)), some (.inl (fun _ => rx_q_get (12, 3, 3, true, false))), none, none, some (.inl (fun _ => rx_h_push (rx_n 238) 3)), none, none, some (.inl (fun _ => rx_h_push (rx_n 3) 1)), some (.inl (fun _ => rx_q_load 0 4 2))]
noncomputable def rxE126_6 : List (Option rx_Ent) := [some (.inl (fun _ => rx_h_bin 2)), some (.inl (fun _ => rx_h_bin 0)), some (.inl (fun _ => rx_h_push (rx_n 1) 1)), some (.inl (fun _ => rx_h_bin 0)), some (.inl (fun _ => rx_q_load 0 2 1)), some (.inl (fun _ => rx_q_ast (rx_isTc 0) (fun I _ _ v => rx_fit I 0 v))), some (.inl (fun _ => rx_q_loadA 0 1)), some (.inl (fun _ => rx_q_get (12, 3, 3, true, false))), none, none, some (.inl (fun _ => rx_h_push (rx_n 238) 3)), none, none, some (.inl (fun _ => rx_h_push (rx_n 3) 1)), some (.inl (fun _ => rx_q_load 0 4 2))]
noncomputable def rxE126_7 : List (Option rx_Ent) := [some (.inl (fun _ => rx_h_bin 2)), some (.inl (fun _ => rx_h_bin 0)), some (.inl (fun _ => rx_h_push (rx_n 2) 1)), some (.inl (fun _ => rx_h_bin 0)), some (.inl (fun _ => rx_q_load 0 3 1)), some (.inl (fun _ => rx_q_ast (rx_isTc 0) (fun I _ _ v => rx_fit I 0 v))), some (.inl (fun _ => rx_q_loadA 0 1)), some (.inl (fun _ => rx_q_get (12, 3, 3, true, false))), none, none, some (.inl (fun _ => rx_h_push (rx_n 1) 1)), some (.inl (fun _ => rx_h_dup2)), some (.inl (fun _ => rx_q_ald (rx_isTc 0))), some (.inl (fun _ => rx_h_push (rx_n 1) 1)), some (.inl (fun _ => rx_h_bin 0)), some (.inl (fun _ => rx_q_ast (rx_isTc 0) (fun I _ _ v => rx_fit I 0 v)))]
noncomputable def rxE126_8 : List (Option rx_Ent) := [some (.inl (fun _ => rx_q_loadA 0 1)), some (.inl (fun _ => rx_q_load 0 4 2)), none, some (.inr (.inr (156, rxM156, rx_q_vcall rxM126 rxM156 1 12))), none, none, some (.inr (.inl (rx_q_reti 0 0)))]
noncomputable def rxE126 : List (List (Option rx_Ent)) := [rxE126_0, rxE126_1, rxE126_2, rxE126_3, rxE126_4, rxE126_5, rxE126_6, rxE126_7, rxE126_8]
noncomputable def rxE127_0 : List (Option rx_Ent) := [some (.inl (fun _ => rx_q_load 0 2 1)), some (.inl (fun _ => rx_q_if .ne 11 4)), none, none, some (.inl (fun _ => rx_q_load 0 3 1)), some (.inr (.inr (16, rxM16, rx_q_scall rxM127 rxM16 1))), none, none, some (.inl (fun _ => rx_q_goto 28)), none, none, some (.inl (fun _ => rx_q_load 0 2 1)), some (.inl (fun _ => rx_h_push (rx_n 1) 1)), some (.inl (fun _ => rx_q_icmp .ne 27 16))]
noncomputable def rxE127_1 : List (Option rx_Ent) := [some (.inl (fun _ => rx_q_load 0 3 1)), some (.inr (.inr (15, rxM15, rx_q_scall rxM127 rxM15 1))), none, none, some (.inl (fun _ => rx_q_if .eq 27 23)), none, none, some (.inl (fun _ => rx_h_push (rx_n 1) 1)), some (.inl (fun _ => rx_q_goto 28)), none, none, some (.inl (fun _ => rx_h_push (rx_n 0) 1)), some (.inl (fun _ => rx_h_istore 8 4 2)), none, some (.inl (fun _ => rx_q_load 0 4 2))]
noncomputable def rxE127_2 : List (Option rx_Ent) := [some (.inl (fun _ => rx_q_if .ne 41 35)), none, none, some (.inl (fun _ => rx_q_loadA 0 1)), some (.inl (fun _ => rx_h_push (rx_n (-1)) 1)), some (.inr (.inr (39, rxM39, rx_q_vcall rxM127 rxM39 1 11))), none, none, some (.inr (.inl (rx_q_reti 0 0))), some (.inl (fun _ => rx_q_loadA 0 1)), some (.inl (fun _ => rx_q_get (11, 0, 3, true, false))), none, none, some (.inl (fun _ => rx_q_get (10, 4, 3, true, true)))]
noncomputable def rxE127_3 : List (Option rx_Ent) := [some (.inl (fun _ => rx_h_astore 8 5 2)), none, some (.inl (fun _ => rx_q_loadA 5 2)), none, some (.inl (fun _ => rx_q_load 0 1 1)), some (.inr (.inr (44, rxM44, rx_q_vcall rxM127 rxM44 1 5))), none, none, some (.inl (fun _ => rx_q_if .ne 66 59)), none, none, some (.inl (fun _ => rx_q_loadA 0 1)), some (.inl (fun _ => rx_h_push (rx_n (-2)) 2)), none, some (.inr (.inr (39, rxM39, rx_q_vcall rxM127 rxM39 1 11)))]
noncomputable def rxE127_4 : List (Option rx_Ent) := [none, some (.inr (.inl (rx_q_reti 0 0)))]
noncomputable def rxE127 : List (List (Option rx_Ent)) := [rxE127_0, rxE127_1, rxE127_2, rxE127_3, rxE127_4]
noncomputable def rxE128_0 : List (Option rx_Ent) := [some (.inl (fun _ => rx_q_loadA 0 1)), some (.inl (fun _ => rx_h_push (rx_n 0) 1)), some (.inl (fun _ => rx_q_put (12, 0, 0, false, false) false)), none, none, some (.inl (fun _ => rx_q_load 0 2 1)), some (.inl (fun _ => rx_q_if .ne 21 9)), none, none, some (.inl (fun _ => rx_q_load 0 3 1)), some (.inl (fun _ => rx_h_i2l)), some (.inl (fun _ => rx_h_push (.inr (1, (0, 0))) 1)), some (.inl (fun _ => rx_h_push (.inr (1, (0, 300))) 3)), none, none, some (.inr (.inr (19, rxM19, rx_q_scall rxM128 rxM19 3)))]
noncomputable def rxE128_1 : List (Option rx_Ent) := [none, none, some (.inl (fun _ => rx_q_goto 43)), none, none, some (.inl (fun _ => rx_q_load 0 2 1)), some (.inl (fun _ => rx_h_push (rx_n 1) 1)), some (.inl (fun _ => rx_q_icmp .ne 42 26)), none, none, some (.inl (fun _ => rx_q_load 0 3 1)), some (.inl (fun _ => rx_h_i2l)), some (.inl (fun _ => rx_h_push (.inr (1, (0, 1))) 1)), some (.inl (fun _ => rx_h_push (.inr (1, (0, 9))) 3))]
noncomputable def rxE128_2 : List (Option rx_Ent) := [some (.inr (.inr (19, rxM19, rx_q_scall rxM128 rxM19 3))), none, none, some (.inl (fun _ => rx_q_if .eq 42 38)), none, none, some (.inl (fun _ => rx_h_push (rx_n 1) 1)), some (.inl (fun _ => rx_q_goto 43)), none, none, some (.inl (fun _ => rx_h_push (rx_n 0) 1)), some (.inl (fun _ => rx_h_istore 7 4 2)), none, some (.inl (fun _ => rx_q_load 0 4 2)), none, some (.inl (fun _ => rx_q_if .ne 56 50))]
noncomputable def rxE128_3 : List (Option rx_Ent) := [none, none, some (.inl (fun _ => rx_q_loadA 0 1)), some (.inl (fun _ => rx_h_push (rx_n (-1)) 1)), some (.inr (.inr (156, rxM156, rx_q_vcall rxM128 rxM156 1 12))), none, none, some (.inr (.inl (rx_q_reti 0 0))), some (.inl (fun _ => rx_q_loadA 0 1)), some (.inl (fun _ => rx_q_load 0 1 1)), some (.inr (.inr (159, rxM159, rx_q_vcall rxM128 rxM159 1 12))), none, none, some (.inl (fun _ => rx_q_if .ne 71 64))]
noncomputable def rxE128_4 : List (Option rx_Ent) := [some (.inl (fun _ => rx_q_loadA 0 1)), some (.inl (fun _ => rx_h_push (rx_n (-2)) 2)), none, some (.inr (.inr (156, rxM156, rx_q_vcall rxM128 rxM156 1 12))), none, none, some (.inr (.inl (rx_q_reti 0 0)))]
noncomputable def rxE128 : List (List (Option rx_Ent)) := [rxE128_0, rxE128_1, rxE128_2, rxE128_3, rxE128_4]
noncomputable def rxE129_0 : List (Option rx_Ent) := [some (.inl (fun _ => rx_q_loadA 0 1)), some (.inl (fun _ => rx_q_get (11, 0, 3, true, false))), none, none, some (.inl (fun _ => rx_q_get (10, 4, 3, true, true))), none, none, some (.inl (fun _ => rx_h_astore 4 3 1)), some (.inl (fun _ => rx_q_loadA 3 1)), some (.inl (fun _ => rx_q_load 0 1 1)), some (.inr (.inr (44, rxM44, rx_q_vcall rxM129 rxM44 1 5))), none, none, some (.inl (fun _ => rx_q_if .ne 18 16))]
noncomputable def rxE129_1 : List (Option rx_Ent) := [some (.inl (fun _ => rx_h_push (rx_n (-1)) 1)), some (.inr (.inl (rx_q_reti 0 0)))]
noncomputable def rxE129 : List (List (Option rx_Ent)) := [rxE129_0, rxE129_1]
noncomputable def rxE130_0 : List (Option rx_Ent) := [some (.inl (fun _ => rx_q_loadA 0 1)), some (.inl (fun _ => rx_h_push (rx_n 0) 1)), some (.inl (fun _ => rx_q_put (12, 0, 0, false, false) false)), none, none, some (.inl (fun _ => rx_q_loadA 0 1)), some (.inl (fun _ => rx_q_load 0 1 1)), some (.inr (.inr (159, rxM159, rx_q_vcall rxM130 rxM159 1 12))), none, none, some (.inl (fun _ => rx_q_if .eq 25 13))]
noncomputable def rxE130_1 : List (Option rx_Ent) := [none, none, none, none, none, none, none, none, none, some (.inl (fun _ => rx_h_push (rx_n (-1)) 1)), some (.inr (.inl (rx_q_reti 0 0)))]
noncomputable def rxE130 : List (List (Option rx_Ent)) := [rxE130_0, rxE130_1]
noncomputable def rxE131_0 : List (Option rx_Ent) := [some (.inl (fun _ => rx_q_load 0 1 1)), some (.inl (fun _ => rx_q_if .lt 21 4)), none, none, some (.inl (fun _ => rx_q_load 0 1 1)), some (.inl (fun _ => rx_h_push (rx_n 3) 1)), some (.inl (fun _ => rx_q_icmp .ge 21 9)), none, none, some (.inl (fun _ => rx_q_load 0 2 1)), some (.inl (fun _ => rx_q_if .lt 21 13)), none, none, some (.inl (fun _ => rx_q_load 0 2 1)), some (.inl (fun _ => rx_q_load 0 1 1)), some (.inr (.inr (17, rxM17, rx_q_scall rxM131 rxM17 1)))]
noncomputable def rxE131_1 : List (Option rx_Ent) := [none, none, some (.inl (fun _ => rx_q_icmp .le 27 21)), none, none, some (.inl (fun _ => rx_q_loadA 0 1)), some (.inl (fun _ => rx_h_push (rx_n (-1)) 1)), some (.inr (.inr (39, rxM39, rx_q_vcall rxM131 rxM39 1 11))), none, none, some (.inr (.inl (rx_q_reti 0 0))), some (.inl (fun _ => rx_q_loadA 0 1)), some (.inl (fun _ => rx_q_get (11, 0, 3, true, false))), none, none, some (.inl (fun _ => rx_q_get (10, 13, 3, true, true)))]
noncomputable def rxE131_2 : List (Option rx_Ent) := [none, none, some (.inl (fun _ => rx_q_load 0 1 1)), some (.inl (fun _ => rx_q_ald (rx_isTc 0))), some (.inl (fun _ => rx_h_istore 4 3 1)), some (.inl (fun _ => rx_q_loadA 0 1)), some (.inl (fun _ => rx_q_get (11, 0, 3, true, false))), none, none, some (.inl (fun _ => rx_q_get (10, 13, 3, true, true))), none, none, some (.inl (fun _ => rx_q_load 0 1 1)), some (.inl (fun _ => rx_q_load 0 2 1)), some (.inl (fun _ => rx_q_ast (rx_isTc 0) (fun I _ _ v => rx_fit I 0 v))), some (.inl (fun _ => rx_q_loadA 0 1))]
noncomputable def rxE131_3 : List (Option rx_Ent) := [some (.inl (fun _ => rx_q_load 0 3 1)), some (.inr (.inr (41, rxM41, rx_q_vcall rxM131 rxM41 1 11))), none, none, some (.inr (.inl (rx_q_reti 0 0)))]
noncomputable def rxE131 : List (List (Option rx_Ent)) := [rxE131_0, rxE131_1, rxE131_2, rxE131_3]
noncomputable def rxE132_0 : List (Option rx_Ent) := [some (.inl (fun _ => rx_q_loadA 0 1)), some (.inl (fun _ => rx_h_push (rx_n 0) 1)), some (.inl (fun _ => rx_q_put (12, 0, 0, false, false) false)), none, none, some (.inl (fun _ => rx_q_load 0 1 1)), some (.inl (fun _ => rx_q_if .ne 21 9)), none, none, some (.inl (fun _ => rx_q_load 0 2 1)), some (.inl (fun _ => rx_h_i2l)), some (.inl (fun _ => rx_h_push (.inr (1, (0, 0))) 1)), some (.inl (fun _ => rx_h_push (.inr (1, (0, 300))) 3)), none, none, some (.inr (.inr (19, rxM19, rx_q_scall rxM132 rxM19 3)))]
noncomputable def rxE132_1 : List (Option rx_Ent) := [none, none, some (.inl (fun _ => rx_q_goto 60)), none, none, some (.inl (fun _ => rx_q_load 0 1 1)), some (.inl (fun _ => rx_h_push (rx_n 1) 1)), some (.inl (fun _ => rx_q_icmp .ne 38 26)), none, none, some (.inl (fun _ => rx_q_load 0 2 1)), some (.inl (fun _ => rx_h_i2l)), some (.inl (fun _ => rx_h_push (.inr (1, (0, 0))) 1)), some (.inl (fun _ => rx_h_push (.inr (1, (0, 9))) 3))]
noncomputable def rxE132_2 : List (Option rx_Ent) := [some (.inr (.inr (19, rxM19, rx_q_scall rxM132 rxM19 3))), none, none, some (.inl (fun _ => rx_q_goto 60)), none, none, some (.inl (fun _ => rx_q_load 0 1 1)), some (.inl (fun _ => rx_h_push (rx_n 2) 1)), some (.inl (fun _ => rx_q_icmp .ne 59 43)), none, none, some (.inl (fun _ => rx_q_load 0 2 1)), some (.inl (fun _ => rx_h_i2l)), some (.inl (fun _ => rx_h_push (.inr (1, (0, 0))) 1)), some (.inl (fun _ => rx_h_push (.inr (1, (0, 100))) 3))]
noncomputable def rxE132_3 : List (Option rx_Ent) := [none, some (.inr (.inr (19, rxM19, rx_q_scall rxM132 rxM19 3))), none, none, some (.inl (fun _ => rx_q_if .eq 59 55)), none, none, some (.inl (fun _ => rx_h_push (rx_n 1) 1)), some (.inl (fun _ => rx_q_goto 60)), none, none, some (.inl (fun _ => rx_h_push (rx_n 0) 1)), some (.inl (fun _ => rx_h_istore 5 3 1)), some (.inl (fun _ => rx_q_load 0 3 1)), some (.inl (fun _ => rx_q_if .ne 71 65))]
noncomputable def rxE132_4 : List (Option rx_Ent) := [none, some (.inl (fun _ => rx_q_loadA 0 1)), some (.inl (fun _ => rx_h_push (rx_n (-1)) 1)), some (.inr (.inr (156, rxM156, rx_q_vcall rxM132 rxM156 1 12))), none, none, some (.inr (.inl (rx_q_reti 0 0))), some (.inl (fun _ => rx_q_loadA 0 1)), some (.inl (fun _ => rx_q_get (12, 3, 3, true, false))), none, none, some (.inl (fun _ => rx_h_push (rx_n 7) 2)), none, some (.inl (fun _ => rx_q_load 0 1 1)), some (.inl (fun _ => rx_h_bin 0)), some (.inl (fun _ => rx_q_ald (rx_isTc 0)))]
noncomputable def rxE132_5 : List (Option rx_Ent) := [some (.inl (fun _ => rx_h_istore 5 4 2)), none, some (.inl (fun _ => rx_q_loadA 0 1)), some (.inl (fun _ => rx_q_get (12, 3, 3, true, false))), none, none, some (.inl (fun _ => rx_h_push (rx_n 7) 2)), none, some (.inl (fun _ => rx_q_load 0 1 1)), some (.inl (fun _ => rx_h_bin 0)), some (.inl (fun _ => rx_q_load 0 2 1)), some (.inl (fun _ => rx_q_ast (rx_isTc 0) (fun I _ _ v => rx_fit I 0 v))), some (.inl (fun _ => rx_q_loadA 0 1)), some (.inl (fun _ => rx_q_load 0 4 2)), none, some (.inr (.inr (157, rxM157, rx_q_vcall rxM132 rxM157 1 12)))]
noncomputable def rxE132_6 : List (Option rx_Ent) := [none, none, some (.inr (.inl (rx_q_reti 0 0)))]
noncomputable def rxE132 : List (List (Option rx_Ent)) := [rxE132_0, rxE132_1, rxE132_2, rxE132_3, rxE132_4, rxE132_5, rxE132_6]
noncomputable def rxE133_0 : List (Option rx_Ent) := [some (.inl (fun _ => rx_q_loadA 0 1)), some (.inl (fun _ => rx_q_get (11, 4, 0, false, false))), none, none, some (.inl (fun _ => rx_h_push (rx_n 380) 3)), none, none, some (.inl (fun _ => rx_q_icmp .le 12 10)), none, none, none, none, some (.inl (fun _ => rx_q_loadA 0 1)), some (.inl (fun _ => rx_q_load 0 1 1)), some (.inr (.inr (45, rxM45, rx_q_vcall rxM133 rxM45 1 11)))]
noncomputable def rxE133_1 : List (Option rx_Ent) := [none, some (.inl (fun _ => rx_q_loadA 0 1)), some (.inl (fun _ => rx_q_load 0 2 1)), some (.inr (.inr (45, rxM45, rx_q_vcall rxM133 rxM45 1 11))), none, none, some (.inl (fun _ => rx_q_loadA 0 1)), some (.inl (fun _ => rx_q_load 0 3 1)), some (.inr (.inr (45, rxM45, rx_q_vcall rxM133 rxM45 1 11))), none, none, some (.inl (fun _ => rx_q_loadA 0 1)), some (.inl (fun _ => rx_q_load 0 4 2)), none, some (.inr (.inr (45, rxM45, rx_q_vcall rxM133 rxM45 1 11)))]
noncomputable def rxE133_2 : List (Option rx_Ent) := [none, some (.inl (fun _ => rx_q_loadA 0 1)), some (.inl (fun _ => rx_q_load 0 5 2)), none, some (.inr (.inr (45, rxM45, rx_q_vcall rxM133 rxM45 1 11))), none, none, some (.inl (fun _ => rx_q_loadA 0 1)), some (.inl (fun _ => rx_q_get (11, 4, 0, false, false))), none, none, some (.inr (.inl (rx_q_reti 0 0)))]
noncomputable def rxE133 : List (List (Option rx_Ent)) := [rxE133_0, rxE133_1, rxE133_2]
noncomputable def rxE134_0 : List (Option rx_Ent) := [some (.inl (fun _ => rx_q_loadA 0 1)), some (.inl (fun _ => rx_h_push (rx_n 0) 1)), some (.inl (fun _ => rx_q_put (12, 0, 0, false, false) false)), none, none, some (.inl (fun _ => rx_q_loadA 0 1)), some (.inl (fun _ => rx_q_get (12, 8, 0, false, false))), none, none, some (.inl (fun _ => rx_h_push (rx_n 20) 2)), none, some (.inl (fun _ => rx_h_bin 0)), some (.inl (fun _ => rx_h_push (rx_n 400) 3)), none, none, some (.inl (fun _ => rx_q_icmp .le 20 18))]
noncomputable def rxE134_1 : List (Option rx_Ent) := [none, none, none, none, some (.inl (fun _ => rx_q_loadA 0 1)), some (.inl (fun _ => rx_q_load 0 1 1)), some (.inr (.inr (160, rxM160, rx_q_vcall rxM134 rxM160 1 12))), none, none, some (.inl (fun _ => rx_q_loadA 0 1)), some (.inl (fun _ => rx_q_load 0 2 1)), some (.inr (.inr (160, rxM160, rx_q_vcall rxM134 rxM160 1 12))), none, none, some (.inl (fun _ => rx_q_loadA 0 1)), some (.inl (fun _ => rx_q_load 0 3 1))]
noncomputable def rxE134_2 : List (Option rx_Ent) := [some (.inr (.inr (160, rxM160, rx_q_vcall rxM134 rxM160 1 12))), none, none, some (.inl (fun _ => rx_q_loadA 0 1)), some (.inl (fun _ => rx_q_load 0 4 2)), none, some (.inr (.inr (160, rxM160, rx_q_vcall rxM134 rxM160 1 12))), none, none, some (.inl (fun _ => rx_q_loadA 0 1)), some (.inl (fun _ => rx_q_load 0 5 2)), none, some (.inr (.inr (160, rxM160, rx_q_vcall rxM134 rxM160 1 12))), none, none, some (.inl (fun _ => rx_q_loadA 0 1))]
noncomputable def rxE134_3 : List (Option rx_Ent) := [some (.inl (fun _ => rx_q_get (12, 8, 0, false, false))), none, none, some (.inr (.inl (rx_q_reti 0 0)))]
noncomputable def rxE134 : List (List (Option rx_Ent)) := [rxE134_0, rxE134_1, rxE134_2, rxE134_3]
noncomputable def rxE135_0 : List (Option rx_Ent) := [some (.inl (fun _ => rx_q_load 0 1 1)), some (.inl (fun _ => rx_q_if .lt 12 4)), none, none, some (.inl (fun _ => rx_q_load 0 1 1)), some (.inl (fun _ => rx_q_loadA 0 1)), some (.inl (fun _ => rx_q_get (11, 4, 0, false, false))), none, none, some (.inl (fun _ => rx_q_icmp .le 14 12)), none, none, some (.inl (fun _ => rx_h_push (rx_n (-1)) 1)), some (.inr (.inl (rx_q_reti 0 0))), some (.inl (fun _ => rx_q_loadA 0 1)), some (.inl (fun _ => rx_q_load 0 1 1))]
noncomputable def rxE135_1 : List (Option rx_Ent) := [some (.inl (fun _ => rx_q_put (11, 4, 0, false, false) false)), none, none, some (.inl (fun _ => rx_q_load 0 1 1)), some (.inr (.inl (rx_q_reti 0 0)))]
noncomputable def rxE135 : List (List (Option rx_Ent)) := [rxE135_0, rxE135_1]
noncomputable def rxE136_0 : List (Option rx_Ent) := [some (.inl (fun _ => rx_q_loadA 0 1)), some (.inl (fun _ => rx_h_push (rx_n 0) 1)), some (.inl (fun _ => rx_q_put (12, 0, 0, false, false) false)), none, none, some (.inl (fun _ => rx_q_load 0 1 1)), some (.inl (fun _ => rx_q_if .lt 17 9)), none, none, some (.inl (fun _ => rx_q_load 0 1 1)), some (.inl (fun _ => rx_q_loadA 0 1)), some (.inl (fun _ => rx_q_get (12, 8, 0, false, false))), none, none, some (.inl (fun _ => rx_q_icmp .le 19 17))]
noncomputable def rxE136_1 : List (Option rx_Ent) := [none, some (.inl (fun _ => rx_h_push (rx_n (-1)) 1)), some (.inr (.inl (rx_q_reti 0 0))), some (.inl (fun _ => rx_q_loadA 0 1)), some (.inl (fun _ => rx_q_load 0 1 1)), some (.inl (fun _ => rx_q_put (12, 8, 0, false, false) false)), none, none, some (.inl (fun _ => rx_q_load 0 1 1)), some (.inr (.inl (rx_q_reti 0 0)))]
noncomputable def rxE136 : List (List (Option rx_Ent)) := [rxE136_0, rxE136_1]
noncomputable def rxE137_0 : List (Option rx_Ent) := [some (.inl (fun _ => rx_q_loadA 0 1)), some (.inl (fun _ => rx_q_get (11, 0, 3, true, false))), none, none, some (.inl (fun _ => rx_q_load 0 1 1)), some (.inr (.inr (42, rxM42, rx_q_vcall rxM137 rxM42 1 10))), none, none, some (.inl (fun _ => rx_q_if .ne 18 11)), none, none, some (.inl (fun _ => rx_q_loadA 0 1)), some (.inl (fun _ => rx_h_push (rx_n (-2)) 2)), none, some (.inr (.inr (39, rxM39, rx_q_vcall rxM137 rxM39 1 11)))]
noncomputable def rxE137_1 : List (Option rx_Ent) := [none, some (.inr (.inl (rx_q_reti 0 0)))]
noncomputable def rxE137 : List (List (Option rx_Ent)) := [rxE137_0, rxE137_1]
noncomputable def rxE138_0 : List (Option rx_Ent) := [some (.inl (fun _ => rx_q_loadA 0 1)), some (.inl (fun _ => rx_h_push (rx_n 0) 1)), some (.inl (fun _ => rx_q_put (12, 0, 0, false, false) false)), none, none, some (.inl (fun _ => rx_q_loadA 0 1)), some (.inl (fun _ => rx_q_load 0 1 1)), some (.inr (.inr (158, rxM158, rx_q_vcall rxM138 rxM158 1 12))), none, none, some (.inl (fun _ => rx_q_if .ne 20 13)), none, none, some (.inl (fun _ => rx_q_loadA 0 1)), some (.inl (fun _ => rx_h_push (rx_n (-2)) 2))]
noncomputable def rxE138_1 : List (Option rx_Ent) := [some (.inr (.inr (156, rxM156, rx_q_vcall rxM138 rxM156 1 12))), none, none, some (.inr (.inl (rx_q_reti 0 0)))]
noncomputable def rxE138 : List (List (Option rx_Ent)) := [rxE138_0, rxE138_1]
noncomputable def rxE139_0 : List (Option rx_Ent) := [some (.inl (fun _ => rx_q_loadA 0 1)), some (.inl (fun _ => rx_q_get (11, 7, 0, false, false))), none, none, some (.inr (.inl (rx_q_reti 0 0)))]
noncomputable def rxE139 : List (List (Option rx_Ent)) := [rxE139_0]
noncomputable def rxE140_0 : List (Option rx_Ent) := [some (.inl (fun _ => rx_q_loadA 0 1)), some (.inl (fun _ => rx_h_push (rx_n 0) 1)), some (.inl (fun _ => rx_q_put (12, 0, 0, false, false) false)), none, none, some (.inl (fun _ => rx_q_loadA 0 1)), some (.inl (fun _ => rx_q_get (12, 6, 0, false, false))), none, none, some (.inr (.inl (rx_q_reti 0 0)))]
noncomputable def rxE140 : List (List (Option rx_Ent)) := [rxE140_0]
noncomputable def rxE141_0 : List (Option rx_Ent) := [some (.inl (fun _ => rx_q_loadA 0 1)), some (.inl (fun _ => rx_q_get (11, 0, 3, true, false))), none, none, some (.inl (fun _ => rx_q_load 0 1 1)), some (.inr (.inr (42, rxM42, rx_q_vcall rxM141 rxM42 1 10))), none, none, some (.inl (fun _ => rx_q_if .ne 18 11)), none, none, some (.inl (fun _ => rx_q_loadA 0 1)), some (.inl (fun _ => rx_h_push (rx_n (-2)) 2)), none, some (.inr (.inr (39, rxM39, rx_q_vcall rxM141 rxM39 1 11)))]
noncomputable def rxE141_1 : List (Option rx_Ent) := [none, some (.inr (.inl (rx_q_reti 0 0)))]
noncomputable def rxE141 : List (List (Option rx_Ent)) := [rxE141_0, rxE141_1]
noncomputable def rxE142_0 : List (Option rx_Ent) := [some (.inl (fun _ => rx_q_loadA 0 1)), some (.inl (fun _ => rx_h_push (rx_n 0) 1)), some (.inl (fun _ => rx_q_put (12, 0, 0, false, false) false)), none, none, some (.inl (fun _ => rx_q_loadA 0 1)), some (.inl (fun _ => rx_q_load 0 1 1)), some (.inr (.inr (158, rxM158, rx_q_vcall rxM142 rxM158 1 12))), none, none, some (.inl (fun _ => rx_q_if .ne 20 13)), none, none, some (.inl (fun _ => rx_q_loadA 0 1)), some (.inl (fun _ => rx_h_push (rx_n (-2)) 2))]
noncomputable def rxE142_1 : List (Option rx_Ent) := [some (.inr (.inr (156, rxM156, rx_q_vcall rxM142 rxM156 1 12))), none, none, some (.inr (.inl (rx_q_reti 0 0)))]
noncomputable def rxE142 : List (List (Option rx_Ent)) := [rxE142_0, rxE142_1]
noncomputable def rxE143_0 : List (Option rx_Ent) := [some (.inl (fun _ => rx_q_loadA 0 1)), some (.inl (fun _ => rx_q_get (11, 4, 0, false, false))), none, none, some (.inl (fun _ => rx_h_istore 2 1 1)), some (.inl (fun _ => rx_q_loadA 0 1)), some (.inl (fun _ => rx_h_push (rx_n 0) 1)), some (.inl (fun _ => rx_q_put (11, 4, 0, false, false) false)), none, none, some (.inl (fun _ => rx_q_loadA 0 1)), some (.inl (fun _ => rx_q_get (11, 0, 3, true, false))), none, none, some (.inl (fun _ => rx_q_get (10, 14, 0, false, true)))]
noncomputable def rxE143_1 : List (Option rx_Ent) := [none, some (.inl (fun _ => rx_h_push (rx_n 6) 2)), none, some (.inl (fun _ => rx_q_icmp .lt 29 22)), none, none, none, none, none, none, none, none, none, some (.inl (fun _ => rx_q_loadA 0 1)), some (.inl (fun _ => rx_q_get (11, 5, 3, true, false)))]
noncomputable def rxE143_2 : List (Option rx_Ent) := [none, some (.inl (fun _ => rx_q_loadA 0 1)), some (.inl (fun _ => rx_q_get (11, 3, 3, true, false))), none, none, some (.inl (fun _ => rx_q_load 0 1 1)), some (.inl (fun _ => rx_h_push (rx_n 0) 1)), some (.inl (fun _ => rx_q_loadA 0 1)), some (.inl (fun _ => rx_q_get (11, 6, 3, true, false))), none, none, some (.inr (.inr (46, rxM46, rx_q_vcall rxM143 rxM46 4 7))), none, none, some (.inl (fun _ => rx_q_if .eq 67 49))]
noncomputable def rxE143_4 : List (Option rx_Ent) := [none, none, none, some (.inl (fun _ => rx_q_loadA 0 1)), some (.inl (fun _ => rx_h_push (rx_n (-6)) 2)), none, some (.inr (.inr (39, rxM39, rx_q_vcall rxM143 rxM39 1 11))), none, none, some (.inr (.inl (rx_q_reti 0 0)))]
noncomputable def rxE143 : List (List (Option rx_Ent)) := [rxE143_0, rxE143_1, rxE143_2, [], rxE143_4]
noncomputable def rxE144_0 : List (Option rx_Ent) := [some (.inl (fun _ => rx_q_loadA 0 1)), some (.inl (fun _ => rx_h_push (rx_n 0) 1)), some (.inl (fun _ => rx_q_put (12, 0, 0, false, false) false)), none, none, some (.inl (fun _ => rx_q_loadA 0 1)), some (.inl (fun _ => rx_q_get (12, 3, 3, true, false))), none, none, some (.inl (fun _ => rx_h_push (rx_n 3) 1)), some (.inl (fun _ => rx_q_ald (rx_isTc 0))), some (.inl (fun _ => rx_h_push (rx_n 6) 2)), none, some (.inl (fun _ => rx_q_icmp .ne 28 16))]
noncomputable def rxE144_1 : List (Option rx_Ent) := [none, none, none, none, none, none, none, none, none, none, none, none, some (.inl (fun _ => rx_q_loadA 0 1)), some (.inl (fun _ => rx_h_push (rx_n 0) 1)), some (.inr (.inr (165, rxM165, rx_q_vcall rxM144 rxM165 1 12)))]
noncomputable def rxE144_2 : List (Option rx_Ent) := [none, some (.inl (fun _ => rx_q_loadA 0 1)), some (.inr (.inr (166, rxM166, rx_q_vcall rxM144 rxM166 0 12))), none, none, some (.inl (fun _ => rx_q_loadA 0 1)), some (.inl (fun _ => rx_q_get (12, 14, 1, false, false))), none, none, some (.inl (fun _ => rx_q_if .ne 64 44))]
noncomputable def rxE144_4 : List (Option rx_Ent) := [some (.inl (fun _ => rx_q_loadA 0 1)), some (.inr (.inr (167, rxM167, rx_q_vcall rxM144 rxM167 0 12))), none, none, some (.inl (fun _ => rx_q_loadA 0 1)), some (.inl (fun _ => rx_q_get (12, 14, 1, false, false))), none, none, some (.inl (fun _ => rx_q_if .eq 82 75)), none, none, some (.inl (fun _ => rx_q_loadA 0 1)), some (.inl (fun _ => rx_h_push (rx_n (-6)) 2)), none, some (.inr (.inr (156, rxM156, rx_q_vcall rxM144 rxM156 1 12)))]
noncomputable def rxE144_5 : List (Option rx_Ent) := [none, some (.inr (.inl (rx_q_reti 0 0)))]
noncomputable def rxE144 : List (List (Option rx_Ent)) := [rxE144_0, rxE144_1, rxE144_2, [], rxE144_4, rxE144_5]
noncomputable def rxE145_0 : List (Option rx_Ent) := [some (.inl (fun _ => rx_q_loadA 0 1)), some (.inl (fun _ => rx_q_get (11, 5, 3, true, false))), none, none, some (.inl (fun _ => rx_q_get (7, 4, 0, false, true))), none, none, some (.inr (.inl (rx_q_reti 0 0)))]
noncomputable def rxE145 : List (List (Option rx_Ent)) := [rxE145_0]
noncomputable def rxE146_0 : List (Option rx_Ent) := [some (.inl (fun _ => rx_q_loadA 0 1)), some (.inl (fun _ => rx_h_push (rx_n 0) 1)), some (.inl (fun _ => rx_q_put (12, 0, 0, false, false) false)), none, none, some (.inl (fun _ => rx_q_loadA 0 1)), some (.inl (fun _ => rx_q_get (12, 13, 0, false, false))), none, none, some (.inr (.inl (rx_q_reti 0 0)))]
noncomputable def rxE146 : List (List (Option rx_Ent)) := [rxE146_0]
noncomputable def rxE147_0 : List (Option rx_Ent) := [some (.inl (fun _ => rx_q_load 0 1 1)), some (.inl (fun _ => rx_h_push (rx_n (-1)) 1)), some (.inl (fun _ => rx_q_icmp .eq 23 5)), none, none, some (.inl (fun _ => rx_q_loadA 0 1)), some (.inl (fun _ => rx_q_get (11, 0, 3, true, false))), none, none, some (.inl (fun _ => rx_q_load 0 1 1)), some (.inr (.inr (47, rxM47, rx_q_vcall rxM147 rxM47 1 10))), none, none, some (.inl (fun _ => rx_q_if .ne 23 16))]
noncomputable def rxE147_1 : List (Option rx_Ent) := [some (.inl (fun _ => rx_q_loadA 0 1)), some (.inl (fun _ => rx_h_push (rx_n (-2)) 2)), none, some (.inr (.inr (39, rxM39, rx_q_vcall rxM147 rxM39 1 11))), none, none, some (.inr (.inl (rx_q_reti 0 0))), some (.inl (fun _ => rx_q_loadA 0 1)), some (.inl (fun _ => rx_q_get (11, 0, 3, true, false))), none, none, some (.inl (fun _ => rx_q_get (10, 15, 0, false, true))), none, none, some (.inl (fun _ => rx_h_istore 3 2 1)), some (.inl (fun _ => rx_q_loadA 0 1))]
noncomputable def rxE147_2 : List (Option rx_Ent) := [some (.inl (fun _ => rx_q_get (11, 0, 3, true, false))), none, none, some (.inl (fun _ => rx_q_load 0 1 1)), some (.inl (fun _ => rx_q_put (10, 15, 0, false, true) false)), none, none, some (.inl (fun _ => rx_q_loadA 0 1)), some (.inl (fun _ => rx_q_load 0 2 1)), some (.inr (.inr (41, rxM41, rx_q_vcall rxM147 rxM41 1 11))), none, none, some (.inr (.inl (rx_q_reti 0 0)))]
noncomputable def rxE147 : List (List (Option rx_Ent)) := [rxE147_0, rxE147_1, rxE147_2]
noncomputable def rxE148_0 : List (Option rx_Ent) := [some (.inl (fun _ => rx_q_loadA 0 1)), some (.inl (fun _ => rx_h_push (rx_n 0) 1)), some (.inl (fun _ => rx_q_put (12, 0, 0, false, false) false)), none, none, some (.inl (fun _ => rx_q_load 0 1 1)), some (.inl (fun _ => rx_h_push (rx_n (-1)) 1)), some (.inl (fun _ => rx_q_icmp .eq 35 10)), none, none, some (.inl (fun _ => rx_q_load 0 1 1)), some (.inl (fun _ => rx_h_i2l)), some (.inl (fun _ => rx_h_push (.inr (1, (0, 0))) 1)), some (.inl (fun _ => rx_q_loadA 0 1)), some (.inl (fun _ => rx_q_get (12, 3, 3, true, false)))]
noncomputable def rxE148_1 : List (Option rx_Ent) := [none, some (.inl (fun _ => rx_h_push (rx_n 3) 1)), some (.inl (fun _ => rx_q_ald (rx_isTc 0))), some (.inl (fun _ => rx_h_i2l)), some (.inl (fun _ => rx_h_push (.inr (1, (0, 1))) 1)), some (.inl (fun _ => rx_h_binL 1)), some (.inr (.inr (19, rxM19, rx_q_scall rxM148 rxM19 3))), none, none, some (.inl (fun _ => rx_q_if .ne 35 28)), none, none, some (.inl (fun _ => rx_q_loadA 0 1)), some (.inl (fun _ => rx_h_push (rx_n (-2)) 2)), none, some (.inr (.inr (156, rxM156, rx_q_vcall rxM148 rxM156 1 12)))]
noncomputable def rxE148_2 : List (Option rx_Ent) := [none, none, some (.inr (.inl (rx_q_reti 0 0))), some (.inl (fun _ => rx_q_loadA 0 1)), some (.inl (fun _ => rx_q_get (12, 3, 3, true, false))), none, none, some (.inl (fun _ => rx_h_push (rx_n 4) 1)), some (.inl (fun _ => rx_q_ald (rx_isTc 0))), some (.inl (fun _ => rx_h_istore 3 2 1)), some (.inl (fun _ => rx_q_loadA 0 1)), some (.inl (fun _ => rx_q_get (12, 3, 3, true, false))), none, none, some (.inl (fun _ => rx_h_push (rx_n 4) 1)), some (.inl (fun _ => rx_q_load 0 1 1))]
noncomputable def rxE148_3 : List (Option rx_Ent) := [some (.inl (fun _ => rx_q_ast (rx_isTc 0) (fun I _ _ v => rx_fit I 0 v))), some (.inl (fun _ => rx_q_loadA 0 1)), some (.inl (fun _ => rx_q_load 0 2 1)), some (.inr (.inr (157, rxM157, rx_q_vcall rxM148 rxM157 1 12))), none, none, some (.inr (.inl (rx_q_reti 0 0)))]
noncomputable def rxE148 : List (List (Option rx_Ent)) := [rxE148_0, rxE148_1, rxE148_2, rxE148_3]
noncomputable def rxE149_0 : List (Option rx_Ent) := [some (.inl (fun _ => rx_q_loadA 0 1)), some (.inl (fun _ => rx_q_get (11, 0, 3, true, false))), none, none, some (.inl (fun _ => rx_q_get (10, 4, 3, true, true))), none, none, some (.inl (fun _ => rx_q_load 0 1 1)), some (.inr (.inr (44, rxM44, rx_q_vcall rxM149 rxM44 1 5))), none, none, some (.inl (fun _ => rx_q_if .eq 25 14))]
noncomputable def rxE149_1 : List (Option rx_Ent) := [none, none, none, none, none, none, none, none, none, some (.inl (fun _ => rx_h_push (rx_n (-1)) 1)), some (.inr (.inl (rx_q_reti 0 0)))]
noncomputable def rxE149 : List (List (Option rx_Ent)) := [rxE149_0, rxE149_1]
noncomputable def rxE150_0 : List (Option rx_Ent) := [some (.inl (fun _ => rx_q_loadA 0 1)), some (.inl (fun _ => rx_h_push (rx_n 0) 1)), some (.inl (fun _ => rx_q_put (12, 0, 0, false, false) false)), none, none, some (.inl (fun _ => rx_q_loadA 0 1)), some (.inl (fun _ => rx_q_load 0 1 1)), some (.inr (.inr (159, rxM159, rx_q_vcall rxM150 rxM159 1 12))), none, none, some (.inl (fun _ => rx_q_if .eq 47 13))]
noncomputable def rxE150_2 : List (Option rx_Ent) := [none, none, none, none, none, none, none, none, none, none, none, none, none, none, none, some (.inl (fun _ => rx_h_push (rx_n (-1)) 1))]
noncomputable def rxE150_3 : List (Option rx_Ent) := [some (.inr (.inl (rx_q_reti 0 0)))]
noncomputable def rxE150 : List (List (Option rx_Ent)) := [rxE150_0, [], rxE150_2, rxE150_3]
noncomputable def rxE151_0 : List (Option rx_Ent) := [some (.inl (fun _ => rx_q_load 0 1 1)), some (.inl (fun _ => rx_q_if .lt 10 4)), none, none, some (.inl (fun _ => rx_q_load 0 1 1)), some (.inl (fun _ => rx_h_push (rx_n 6) 2)), none, some (.inl (fun _ => rx_q_icmp .lt 16 10)), none, none, some (.inl (fun _ => rx_q_loadA 0 1)), some (.inl (fun _ => rx_h_push (rx_n (-1)) 1)), some (.inr (.inr (39, rxM39, rx_q_vcall rxM151 rxM39 1 11))), none, none, some (.inr (.inl (rx_q_reti 0 0)))]
noncomputable def rxE151_1 : List (Option rx_Ent) := [some (.inl (fun _ => rx_q_loadA 0 1)), some (.inl (fun _ => rx_q_get (11, 0, 3, true, false))), none, none, some (.inl (fun _ => rx_q_get (10, 10, 0, false, true))), none, none, some (.inl (fun _ => rx_h_push (rx_n 12) 2)), none, some (.inl (fun _ => rx_q_icmp .lt 35 28))]
noncomputable def rxE151_2 : List (Option rx_Ent) := [none, none, none, some (.inl (fun _ => rx_q_loadA 0 1)), some (.inl (fun _ => rx_q_loadA 0 1)), some (.inl (fun _ => rx_q_get (11, 0, 3, true, false))), none, none, some (.inl (fun _ => rx_q_load 0 1 1)), some (.inr (.inr (48, rxM48, rx_q_vcall rxM151 rxM48 1 10))), none, none, some (.inr (.inr (41, rxM41, rx_q_vcall rxM151 rxM41 1 11))), none, none, some (.inr (.inl (rx_q_reti 0 0)))]
noncomputable def rxE151 : List (List (Option rx_Ent)) := [rxE151_0, rxE151_1, rxE151_2]
noncomputable def rxE152_0 : List (Option rx_Ent) := [some (.inl (fun _ => rx_q_loadA 0 1)), some (.inl (fun _ => rx_h_push (rx_n 0) 1)), some (.inl (fun _ => rx_q_put (12, 0, 0, false, false) false)), none, none, some (.inl (fun _ => rx_q_load 0 1 1)), some (.inl (fun _ => rx_h_i2l)), some (.inl (fun _ => rx_h_push (.inr (1, (0, 0))) 1)), some (.inl (fun _ => rx_h_push (.inr (1, (0, 5))) 3)), none, none, some (.inr (.inr (19, rxM19, rx_q_scall rxM152 rxM19 3))), none, none, some (.inl (fun _ => rx_q_if .ne 23 17))]
noncomputable def rxE152_1 : List (Option rx_Ent) := [none, some (.inl (fun _ => rx_q_loadA 0 1)), some (.inl (fun _ => rx_h_push (rx_n (-1)) 1)), some (.inr (.inr (156, rxM156, rx_q_vcall rxM152 rxM156 1 12))), none, none, some (.inr (.inl (rx_q_reti 0 0))), some (.inl (fun _ => rx_q_loadA 0 1)), some (.inl (fun _ => rx_q_get (12, 3, 3, true, false))), none, none, some (.inl (fun _ => rx_h_push (rx_n 5) 1)), some (.inl (fun _ => rx_q_ald (rx_isTc 0))), some (.inl (fun _ => rx_h_istore 3 2 1)), some (.inl (fun _ => rx_q_load 0 2 1)), some (.inl (fun _ => rx_h_push (rx_n 12) 2))]
noncomputable def rxE152_2 : List (Option rx_Ent) := [none, some (.inl (fun _ => rx_q_icmp .ne 43 36)), none, none, none, none, none, none, none, none, none, some (.inl (fun _ => rx_q_loadA 0 1)), some (.inl (fun _ => rx_q_get (12, 3, 3, true, false))), none, none, some (.inl (fun _ => rx_h_push (rx_n 730) 3))]
noncomputable def rxE152_3 : List (Option rx_Ent) := [none, none, some (.inl (fun _ => rx_q_load 0 2 1)), some (.inl (fun _ => rx_h_bin 0)), some (.inl (fun _ => rx_q_load 0 1 1)), some (.inl (fun _ => rx_q_ast (rx_isTc 0) (fun I _ _ v => rx_fit I 0 v))), some (.inl (fun _ => rx_q_loadA 0 1)), some (.inl (fun _ => rx_q_get (12, 3, 3, true, false))), none, none, some (.inl (fun _ => rx_h_push (rx_n 5) 1)), some (.inl (fun _ => rx_h_dup2)), some (.inl (fun _ => rx_q_ald (rx_isTc 0))), some (.inl (fun _ => rx_h_push (rx_n 1) 1)), some (.inl (fun _ => rx_h_bin 0)), some (.inl (fun _ => rx_q_ast (rx_isTc 0) (fun I _ _ v => rx_fit I 0 v)))]
noncomputable def rxE152_4 : List (Option rx_Ent) := [some (.inl (fun _ => rx_q_loadA 0 1)), some (.inl (fun _ => rx_q_load 0 2 1)), some (.inl (fun _ => rx_h_push (rx_n 1) 1)), some (.inl (fun _ => rx_h_bin 0)), some (.inr (.inr (156, rxM156, rx_q_vcall rxM152 rxM156 1 12))), none, none, some (.inr (.inl (rx_q_reti 0 0)))]
noncomputable def rxE152 : List (List (Option rx_Ent)) := [rxE152_0, rxE152_1, rxE152_2, rxE152_3, rxE152_4]
noncomputable def rxE153_0 : List (Option rx_Ent) := [some (.inl (fun _ => rx_q_loadA 0 1)), some (.inl (fun _ => rx_q_get (11, 0, 3, true, false))), none, none, some (.inl (fun _ => rx_q_get (10, 10, 0, false, true))), none, none, some (.inl (fun _ => rx_h_istore 2 1 1)), some (.inl (fun _ => rx_q_loadA 0 1)), some (.inl (fun _ => rx_q_get (11, 0, 3, true, false))), none, none, some (.inl (fun _ => rx_h_push (rx_n 0) 1)), some (.inl (fun _ => rx_q_put (10, 10, 0, false, true) false))]
noncomputable def rxE153_1 : List (Option rx_Ent) := [some (.inl (fun _ => rx_q_load 0 1 1)), some (.inr (.inl (rx_q_reti 0 0)))]
noncomputable def rxE153 : List (List (Option rx_Ent)) := [rxE153_0, rxE153_1]
noncomputable def rxE154_0 : List (Option rx_Ent) := [some (.inl (fun _ => rx_q_loadA 0 1)), some (.inl (fun _ => rx_h_push (rx_n 0) 1)), some (.inl (fun _ => rx_q_put (12, 0, 0, false, false) false)), none, none, some (.inl (fun _ => rx_q_loadA 0 1)), some (.inl (fun _ => rx_q_get (12, 3, 3, true, false))), none, none, some (.inl (fun _ => rx_h_push (rx_n 5) 1)), some (.inl (fun _ => rx_q_ald (rx_isTc 0))), some (.inl (fun _ => rx_h_istore 2 1 1)), some (.inl (fun _ => rx_q_loadA 0 1)), some (.inl (fun _ => rx_q_get (12, 3, 3, true, false)))]
noncomputable def rxE154_1 : List (Option rx_Ent) := [some (.inl (fun _ => rx_h_push (rx_n 5) 1)), some (.inl (fun _ => rx_h_push (rx_n 0) 1)), some (.inl (fun _ => rx_q_ast (rx_isTc 0) (fun I _ _ v => rx_fit I 0 v))), some (.inl (fun _ => rx_q_load 0 1 1)), some (.inr (.inl (rx_q_reti 0 0)))]
noncomputable def rxE154 : List (List (Option rx_Ent)) := [rxE154_0, rxE154_1]
noncomputable def rxE155_0 : List (Option rx_Ent) := [some (.inl (fun _ => rx_q_loadA 0 1)), some (.inl (fun _ => rx_q_get (11, 0, 3, true, false))), none, none, some (.inl (fun _ => rx_q_load 0 1 1)), some (.inr (.inr (42, rxM42, rx_q_vcall rxM155 rxM42 1 10))), none, none, some (.inl (fun _ => rx_q_if .eq 25 11))]
noncomputable def rxE155_1 : List (Option rx_Ent) := [none, none, none, none, none, none, none, none, none, some (.inl (fun _ => rx_q_loadA 0 1)), some (.inl (fun _ => rx_h_push (rx_n (-2)) 2)), none, some (.inr (.inr (39, rxM39, rx_q_vcall rxM155 rxM39 1 11))), none, none, some (.inr (.inl (rx_q_reti 0 0)))]
noncomputable def rxE155 : List (List (Option rx_Ent)) := [rxE155_0, rxE155_1]
noncomputable def rxE156_0 : List (Option rx_Ent) := [some (.inl (fun _ => rx_q_loadA 0 1)), some (.inl (fun _ => rx_q_load 0 1 1)), some (.inl (fun _ => rx_q_if .ge 9 5)), none, none, some (.inl (fun _ => rx_q_load 0 1 1)), some (.inl (fun _ => rx_q_goto 10)), none, none, some (.inl (fun _ => rx_h_push (rx_n 0) 1)), some (.inl (fun _ => rx_q_put (12, 1, 0, false, false) false)), none, none, some (.inl (fun _ => rx_q_load 0 1 1)), some (.inl (fun _ => rx_q_if .ge 28 17))]
noncomputable def rxE156_1 : List (Option rx_Ent) := [none, some (.inl (fun _ => rx_q_loadA 0 1)), some (.inl (fun _ => rx_q_get (12, 2, 3, true, false))), none, none, some (.inl (fun _ => rx_q_load 0 1 1)), some (.inl (fun _ => rx_h_ineg)), some (.inl (fun _ => rx_h_dup2)), some (.inl (fun _ => rx_q_ald (rx_isTc 0))), some (.inl (fun _ => rx_h_push (rx_n 1) 1)), some (.inl (fun _ => rx_h_bin 0)), some (.inl (fun _ => rx_q_ast (rx_isTc 0) (fun I _ _ v => rx_fit I 0 v))), some (.inl (fun _ => rx_q_load 0 1 1)), some (.inr (.inl (rx_q_reti 0 0)))]
noncomputable def rxE156 : List (List (Option rx_Ent)) := [rxE156_0, rxE156_1]
noncomputable def rxE157_0 : List (Option rx_Ent) := [some (.inl (fun _ => rx_q_loadA 0 1)), some (.inl (fun _ => rx_h_push (rx_n 0) 1)), some (.inl (fun _ => rx_q_put (12, 1, 0, false, false) false)), none, none, some (.inl (fun _ => rx_q_load 0 1 1)), some (.inr (.inl (rx_q_reti 0 0)))]
noncomputable def rxE157 : List (List (Option rx_Ent)) := [rxE157_0]
noncomputable def rxE158_0 : List (Option rx_Ent) := [some (.inl (fun _ => rx_q_load 0 1 1)), some (.inl (fun _ => rx_h_i2l)), some (.inl (fun _ => rx_h_push (.inr (1, (0, 0))) 1)), some (.inl (fun _ => rx_q_loadA 0 1)), some (.inl (fun _ => rx_q_get (12, 3, 3, true, false))), none, none, some (.inl (fun _ => rx_h_push (rx_n 0) 1)), some (.inl (fun _ => rx_q_ald (rx_isTc 0))), some (.inl (fun _ => rx_h_i2l)), some (.inl (fun _ => rx_h_push (.inr (1, (0, 1))) 1)), some (.inl (fun _ => rx_h_binL 1)), some (.inr (.inr (19, rxM19, rx_q_scall rxM158 rxM19 3))), none, none, some (.inr (.inl (rx_q_retz 0 0)))]
noncomputable def rxE158 : List (List (Option rx_Ent)) := [rxE158_0]
noncomputable def rxE159_0 : List (Option rx_Ent) := [some (.inl (fun _ => rx_q_load 0 1 1)), some (.inl (fun _ => rx_h_i2l)), some (.inl (fun _ => rx_h_push (.inr (1, (0, 0))) 1)), some (.inl (fun _ => rx_q_loadA 0 1)), some (.inl (fun _ => rx_q_get (12, 3, 3, true, false))), none, none, some (.inl (fun _ => rx_h_push (rx_n 1) 1)), some (.inl (fun _ => rx_q_ald (rx_isTc 0))), some (.inl (fun _ => rx_h_i2l)), some (.inl (fun _ => rx_h_push (.inr (1, (0, 1))) 1)), some (.inl (fun _ => rx_h_binL 1)), some (.inr (.inr (19, rxM19, rx_q_scall rxM159 rxM19 3))), none, none, some (.inr (.inl (rx_q_retz 0 0)))]
noncomputable def rxE159 : List (List (Option rx_Ent)) := [rxE159_0]
noncomputable def rxE160_0 : List (Option rx_Ent) := [some (.inl (fun _ => rx_h_push (rx_n 24) 2)), none, some (.inl (fun _ => rx_h_istore 3 2 1)), some (.inl (fun _ => rx_q_load 0 2 1)), some (.inl (fun _ => rx_q_if .lt 39 7)), none, none, some (.inl (fun _ => rx_q_loadA 0 1)), some (.inl (fun _ => rx_q_get (12, 7, 3, true, false))), none, none, some (.inl (fun _ => rx_q_loadA 0 1)), some (.inl (fun _ => rx_q_get (12, 8, 0, false, false))), none, none, some (.inl (fun _ => rx_q_load 0 1 1))]
noncomputable def rxE160_1 : List (Option rx_Ent) := [some (.inl (fun _ => rx_q_load 0 2 1)), some (.inl (fun _ => rx_h_bin 9)), some (.inl (fun _ => rx_h_push (rx_n 255) 3)), none, none, some (.inl (fun _ => rx_h_bin 5)), some (.inl (fun _ => rx_q_ast (rx_isTc 0) (fun I _ _ v => rx_fit I 0 v))), some (.inl (fun _ => rx_q_loadA 0 1)), some (.inl (fun _ => rx_h_dup)), some (.inl (fun _ => rx_q_get (12, 8, 0, false, false))), none, none, some (.inl (fun _ => rx_h_push (rx_n 1) 1)), some (.inl (fun _ => rx_h_bin 0)), some (.inl (fun _ => rx_q_put (12, 8, 0, false, false) false))]
noncomputable def rxE160_2 : List (Option rx_Ent) := [none, some (.inl (fun _ => rx_h_iinc 3 2 (-8))), none, none, some (.inl (fun _ => rx_q_goto 3)), none, none, some (.inr (.inl (rx_q_retv 0 0)))]
noncomputable def rxE160 : List (List (Option rx_Ent)) := [rxE160_0, rxE160_1, rxE160_2]
noncomputable def rxE161_0 : List (Option rx_Ent) := [some (.inl (fun _ => rx_q_loadA 0 1)), some (.inl (fun _ => rx_q_loadA 0 1)), some (.inl (fun _ => rx_q_get (12, 10, 0, false, false))), none, none, some (.inl (fun _ => rx_q_put (12, 9, 0, false, false) false)), none, none, some (.inl (fun _ => rx_q_loadA 0 1)), some (.inl (fun _ => rx_q_get (12, 9, 0, false, false))), none, none, some (.inl (fun _ => rx_q_loadA 0 1)), some (.inl (fun _ => rx_q_get (12, 8, 0, false, false)))]
noncomputable def rxE161_1 : List (Option rx_Ent) := [some (.inl (fun _ => rx_q_icmp .ge 46 19))]
noncomputable def rxE161_2 : List (Option rx_Ent) := [none, none, none, none, none, none, none, none, none, none, none, none, none, none, some (.inl (fun _ => rx_q_loadA 0 1)), some (.inl (fun _ => rx_q_loadA 0 1))]
noncomputable def rxE161_3 : List (Option rx_Ent) := [some (.inl (fun _ => rx_q_get (12, 9, 0, false, false))), none, none, some (.inl (fun _ => rx_q_put (12, 10, 0, false, false) false)), none, none, some (.inl (fun _ => rx_q_loadA 0 1)), some (.inl (fun _ => rx_h_push (.inr (1, (0, 0))) 1)), some (.inl (fun _ => rx_q_put (12, 12, 2, false, false) false)), none, none, some (.inl (fun _ => rx_q_loadA 0 1)), some (.inl (fun _ => rx_q_loadA 0 1)), some (.inl (fun _ => rx_q_get (12, 9, 0, false, false)))]
noncomputable def rxE161_4 : List (Option rx_Ent) := [some (.inl (fun _ => rx_q_loadA 0 1)), some (.inl (fun _ => rx_q_get (12, 8, 0, false, false))), none, none, some (.inl (fun _ => rx_q_icmp .ne 75 71)), none, none, some (.inl (fun _ => rx_h_push (rx_n 0) 1)), some (.inl (fun _ => rx_q_goto 114))]
noncomputable def rxE161_7 : List (Option rx_Ent) := [none, none, some (.inl (fun _ => rx_q_put (12, 11, 0, false, false) false)), none, none, some (.inl (fun _ => rx_q_loadA 0 1)), some (.inl (fun _ => rx_q_get (12, 11, 0, false, false))), none, none, some (.inl (fun _ => rx_h_push (rx_n 3) 1)), some (.inl (fun _ => rx_q_icmp .ne 149 125))]
noncomputable def rxE161_9 : List (Option rx_Ent) := [none, none, none, none, none, some (.inl (fun _ => rx_q_loadA 0 1)), some (.inl (fun _ => rx_q_get (12, 11, 0, false, false))), none, none, some (.inl (fun _ => rx_h_push (rx_n 1) 1)), some (.inl (fun _ => rx_q_icmp .ne 243 157))]
noncomputable def rxE161_15 : List (Option rx_Ent) := [none, none, none, some (.inl (fun _ => rx_q_loadA 0 1)), some (.inl (fun _ => rx_q_get (12, 11, 0, false, false))), none, none, some (.inl (fun _ => rx_h_push (rx_n 2) 1)), some (.inl (fun _ => rx_q_icmp .ne 335 251))]
noncomputable def rxE161_20 : List (Option rx_Ent) := [none, none, none, none, none, none, none, none, none, none, none, none, none, none, none, some (.inr (.inl (rx_q_retv 0 0)))]
noncomputable def rxE161 : List (List (Option rx_Ent)) := [rxE161_0, rxE161_1, rxE161_2, rxE161_3, rxE161_4, [], [], rxE161_7, [], rxE161_9, [], [], [], [], [], rxE161_15, [], [], [], [], rxE161_20]
noncomputable def rxE162_0 : List (Option rx_Ent) := [some (.inl (fun _ => rx_q_loadA 0 1)), some (.inl (fun _ => rx_q_get (12, 14, 1, false, false))), none, none, some (.inl (fun _ => rx_q_if .ne 24 7)), none, none, some (.inl (fun _ => rx_q_load 0 1 1)), some (.inl (fun _ => rx_q_if .ne 24 11)), none, none, some (.inl (fun _ => rx_q_loadA 0 1)), some (.inl (fun _ => rx_h_push (rx_n 1) 1)), some (.inl (fun _ => rx_q_put (12, 14, 1, false, false) false))]
noncomputable def rxE162_1 : List (Option rx_Ent) := [some (.inl (fun _ => rx_q_loadA 0 1)), some (.inl (fun _ => rx_q_loadA 0 1)), some (.inl (fun _ => rx_q_get (12, 9, 0, false, false))), none, none, some (.inl (fun _ => rx_q_put (12, 13, 0, false, false) false)), none, none, some (.inl (fun _ => rx_q_loadA 0 1)), some (.inl (fun _ => rx_q_get (12, 14, 1, false, false))), none, none, some (.inl (fun _ => rx_q_if .ne 35 31))]
noncomputable def rxE162_2 : List (Option rx_Ent) := [none, none, none, some (.inr (.inl (rx_q_retv 0 0)))]
noncomputable def rxE162 : List (List (Option rx_Ent)) := [rxE162_0, rxE162_1, rxE162_2]
noncomputable def rxE163_0 : List (Option rx_Ent) := [some (.inl (fun _ => rx_q_loadA 0 1)), some (.inl (fun _ => rx_q_get (12, 11, 0, false, false))), none, none, some (.inl (fun _ => rx_h_push (rx_n 1) 1)), some (.inl (fun _ => rx_q_icmp .ne 21 8))]
noncomputable def rxE163_1 : List (Option rx_Ent) := [none, none, none, none, none, some (.inl (fun _ => rx_h_push (rx_n 0) 1)), some (.inr (.inl (rx_q_retz 0 0)))]
noncomputable def rxE163 : List (List (Option rx_Ent)) := [rxE163_0, rxE163_1]
noncomputable def rxE164_0 : List (Option rx_Ent) := [some (.inl (fun _ => rx_q_loadA 0 1)), some (.inl (fun _ => rx_h_push (rx_n 0) 1)), some (.inl (fun _ => rx_q_put (12, 10, 0, false, false) false)), none, none, some (.inl (fun _ => rx_q_loadA 0 1)), some (.inl (fun _ => rx_h_push (rx_n 0) 1)), some (.inl (fun _ => rx_q_put (12, 14, 1, false, false) false)), none, none, some (.inl (fun _ => rx_q_loadA 0 1)), some (.inl (fun _ => rx_h_push (rx_n (-1)) 1)), some (.inl (fun _ => rx_q_put (12, 13, 0, false, false) false)), none, none, some (.inl (fun _ => rx_q_loadA 0 1))]
noncomputable def rxE164_1 : List (Option rx_Ent) := [some (.inr (.inr (161, rxM161, rx_q_vcall rxM164 rxM161 0 12))), none, none, some (.inr (.inl (rx_q_retv 0 0)))]
noncomputable def rxE164 : List (List (Option rx_Ent)) := [rxE164_0, rxE164_1]
noncomputable def rxE165_0 : List (Option rx_Ent) := [some (.inl (fun _ => rx_q_loadA 0 1)), some (.inl (fun _ => rx_q_load 0 1 1)), some (.inl (fun _ => rx_q_put (12, 15, 1, false, false) false)), none, none, some (.inl (fun _ => rx_q_loadA 0 1)), some (.inr (.inr (164, rxM164, rx_q_vcall rxM165 rxM164 0 12))), none, none, some (.inl (fun _ => rx_q_loadA 0 1)), some (.inl (fun _ => rx_h_push (rx_n 0) 1)), some (.inl (fun _ => rx_q_put (12, 16, 0, false, false) false)), none, none, some (.inl (fun _ => rx_q_loadA 0 1)), some (.inl (fun _ => rx_h_push (rx_n 0) 1))]
noncomputable def rxE165_1 : List (Option rx_Ent) := [some (.inl (fun _ => rx_q_put (12, 18, 0, false, false) false)), none, none, some (.inl (fun _ => rx_q_loadA 0 1)), some (.inl (fun _ => rx_h_push (rx_n 0) 1)), some (.inl (fun _ => rx_q_put (12, 21, 0, false, false) false)), none, none, some (.inr (.inl (rx_q_retv 0 0)))]
noncomputable def rxE165 : List (List (Option rx_Ent)) := [rxE165_0, rxE165_1]
noncomputable def rxE166_0 : List (Option rx_Ent) := [some (.inl (fun _ => rx_q_loadA 0 1)), some (.inl (fun _ => rx_h_push (.inr (1, (0, 20325907))) 3)), none, none, some (.inr (.inr (163, rxM163, rx_q_vcall rxM166 rxM163 1 12))), none, none, some (.inl (fun _ => rx_q_if .eq 14 10)), none, none, none, none, none, none, some (.inl (fun _ => rx_q_loadA 0 1)), some (.inl (fun _ => rx_h_push (.inr (1, (0, 8902227))) 3))]
noncomputable def rxE166_1 : List (Option rx_Ent) := [none, none, some (.inr (.inr (163, rxM163, rx_q_vcall rxM166 rxM163 1 12))), none, none, some (.inl (fun _ => rx_q_if .eq 28 24)), none, none, none, none, none, none, some (.inl (fun _ => rx_q_loadA 0 1)), some (.inl (fun _ => rx_h_push (.inr (1, (0, 67155))) 3))]
noncomputable def rxE166_2 : List (Option rx_Ent) := [some (.inr (.inr (163, rxM163, rx_q_vcall rxM166 rxM163 1 12))), none, none, some (.inl (fun _ => rx_q_if .eq 42 38)), none, none, none, none, none, none, some (.inl (fun _ => rx_h_push (rx_n (-1)) 1)), some (.inl (fun _ => rx_h_istore 4 1 1)), some (.inl (fun _ => rx_q_loadA 0 1)), some (.inl (fun _ => rx_q_load 0 1 1)), some (.inl (fun _ => rx_h_push (rx_n (-1)) 1)), some (.inl (fun _ => rx_q_icmp .eq 63 50))]
noncomputable def rxE166_3 : List (Option rx_Ent) := [none, none, none, none, none, none, none, none, none, none, none, none, none, none, none, some (.inl (fun _ => rx_h_push (rx_n 0) 1))]
noncomputable def rxE166_4 : List (Option rx_Ent) := [some (.inr (.inr (162, rxM162, rx_q_vcall rxM166 rxM162 1 12))), none, none, some (.inl (fun _ => rx_q_loadA 0 1)), some (.inl (fun _ => rx_q_get (12, 14, 1, false, false))), none, none, some (.inl (fun _ => rx_q_if .eq 75 74)), none, none, some (.inr (.inl (rx_q_retv 0 0)))]
noncomputable def rxE166 : List (List (Option rx_Ent)) := [rxE166_0, rxE166_1, rxE166_2, rxE166_3, rxE166_4]
noncomputable def rxE167_0 : List (Option rx_Ent) := [some (.inl (fun _ => rx_q_loadA 0 1)), some (.inl (fun _ => rx_q_get (12, 14, 1, false, false))), none, none, some (.inl (fun _ => rx_q_if .ne 19 7))]
noncomputable def rxE167_1 : List (Option rx_Ent) := [none, none, none, some (.inl (fun _ => rx_q_loadA 0 1)), some (.inl (fun _ => rx_h_push (rx_n 0) 1)), some (.inl (fun _ => rx_q_put (12, 15, 1, false, false) false)), none, none, some (.inl (fun _ => rx_q_loadA 0 1)), some (.inl (fun _ => rx_h_push (rx_n 0) 1)), some (.inl (fun _ => rx_q_put (12, 8, 0, false, false) false)), none, none, some (.inr (.inl (rx_q_retv 0 0)))]
noncomputable def rxE167 : List (List (Option rx_Ent)) := [rxE167_0, rxE167_1]
noncomputable def rxE168_0 : List (Option rx_Ent) := [some (.inl (fun _ => rx_q_load 0 1 1)), some (.inl (fun _ => rx_h_i2l)), some (.inl (fun _ => rx_h_push (.inr (1, (0, 0))) 1)), some (.inl (fun _ => rx_q_loadA 0 1)), some (.inl (fun _ => rx_q_get (12, 3, 3, true, false))), none, none, some (.inl (fun _ => rx_h_push (rx_n 2) 1)), some (.inl (fun _ => rx_q_ald (rx_isTc 0))), some (.inl (fun _ => rx_h_i2l)), some (.inl (fun _ => rx_h_push (.inr (1, (0, 1))) 1)), some (.inl (fun _ => rx_h_binL 1)), some (.inr (.inr (19, rxM19, rx_q_scall rxM168 rxM19 3))), none, none, some (.inr (.inl (rx_q_retz 0 0)))]
noncomputable def rxE168 : List (List (Option rx_Ent)) := [rxE168_0]
noncomputable def rxE169_0 : List (Option rx_Ent) := [some (.inl (fun _ => rx_q_loadA 0 1)), some (.inl (fun _ => rx_q_load 0 1 1)), some (.inr (.inr (168, rxM168, rx_q_vcall rxM169 rxM168 1 12))), none, none, some (.inl (fun _ => rx_q_if .eq 32 8))]
noncomputable def rxE169_2 : List (Option rx_Ent) := [some (.inl (fun _ => rx_h_push (rx_n 0) 1)), some (.inr (.inl (rx_q_retz 0 0)))]
noncomputable def rxE169 : List (List (Option rx_Ent)) := [rxE169_0, [], rxE169_2]
noncomputable def rxE170_0 : List (Option rx_Ent) := [some (.inl (fun _ => rx_h_push (rx_n 0) 1)), some (.inl (fun _ => rx_h_istore 5 2 1)), some (.inl (fun _ => rx_h_push (rx_n 0) 1)), some (.inl (fun _ => rx_h_istore 5 3 1)), some (.inl (fun _ => rx_h_push (rx_n 0) 1)), some (.inl (fun _ => rx_h_istore 5 4 2)), none, some (.inl (fun _ => rx_q_load 0 4 2)), none, some (.inl (fun _ => rx_q_load 0 1 1)), some (.inl (fun _ => rx_q_icmp .ge 53 13))]
noncomputable def rxE170_3 : List (Option rx_Ent) := [none, none, none, none, none, some (.inl (fun _ => rx_q_load 0 3 1)), some (.inl (fun _ => rx_q_loadA 0 1)), some (.inl (fun _ => rx_q_get (12, 58, 0, false, false))), none, none, some (.inl (fun _ => rx_q_icmp .ge 100 61)), none, none, some (.inl (fun _ => rx_q_loadA 0 1)), some (.inl (fun _ => rx_q_load 0 3 1)), some (.inl (fun _ => rx_q_put (12, 58, 0, false, false) false))]
noncomputable def rxE170_4 : List (Option rx_Ent) := [none, none, some (.inl (fun _ => rx_q_loadA 0 1)), some (.inl (fun _ => rx_h_push (rx_n 0) 1)), some (.inl (fun _ => rx_q_put (12, 59, 0, false, false) false)), none, none, some (.inl (fun _ => rx_h_push (rx_n 0) 1)), some (.inl (fun _ => rx_h_istore 5 4 2)), none, some (.inl (fun _ => rx_q_load 0 4 2)), none, some (.inl (fun _ => rx_q_load 0 1 1)), some (.inl (fun _ => rx_q_icmp .ge 100 80))]
noncomputable def rxE170_6 : List (Option rx_Ent) := [none, none, none, none, some (.inl (fun _ => rx_q_loadA 0 1)), some (.inl (fun _ => rx_h_dup)), some (.inl (fun _ => rx_q_get (12, 59, 0, false, false))), none, none, some (.inl (fun _ => rx_q_load 0 3 1)), some (.inl (fun _ => rx_q_loadA 0 1)), some (.inl (fun _ => rx_q_get (12, 58, 0, false, false))), none, none, some (.inl (fun _ => rx_q_icmp .ne 117 113))]
noncomputable def rxE170_7 : List (Option rx_Ent) := [none, some (.inl (fun _ => rx_h_push (rx_n 1) 1)), some (.inl (fun _ => rx_q_goto 118)), none, none, none, some (.inl (fun _ => rx_h_bin 0)), some (.inl (fun _ => rx_q_put (12, 59, 0, false, false) false)), none, none, some (.inr (.inl (rx_q_retv 0 0)))]
noncomputable def rxE170 : List (List (Option rx_Ent)) := [rxE170_0, [], [], rxE170_3, rxE170_4, [], rxE170_6, rxE170_7]
noncomputable def rxE171_0 : List (Option rx_Ent) := [some (.inl (fun _ => rx_q_loadA 0 1)), some (.inl (fun _ => rx_q_get (12, 3, 3, true, false))), none, none, some (.inl (fun _ => rx_h_push (rx_n 0) 1)), some (.inl (fun _ => rx_q_ald (rx_isTc 0))), some (.inl (fun _ => rx_h_istore 3 1 1)), some (.inl (fun _ => rx_h_push (rx_n 0) 1)), some (.inl (fun _ => rx_h_istore 3 2 1)), some (.inl (fun _ => rx_q_load 0 2 1)), some (.inl (fun _ => rx_h_push (rx_n 48) 2)), none, some (.inl (fun _ => rx_q_icmp .ge 85 15)), none, none, some (.inl (fun _ => rx_q_loadA 0 1))]
noncomputable def rxE171_1 : List (Option rx_Ent) := [some (.inl (fun _ => rx_q_get (12, 57, 3, true, false))), none, none, some (.inl (fun _ => rx_q_load 0 2 1)), some (.inl (fun _ => rx_q_load 0 2 1)), some (.inl (fun _ => rx_h_push (rx_n 8) 2)), none, some (.inl (fun _ => rx_h_div 3)), some (.inl (fun _ => rx_q_load 0 1 1)), some (.inl (fun _ => rx_q_icmp .ge 77 28))]
noncomputable def rxE171_4 : List (Option rx_Ent) := [none, none, none, none, none, none, none, none, none, none, none, none, none, some (.inl (fun _ => rx_h_push (rx_n 0) 1)), some (.inl (fun _ => rx_q_ast (rx_isTc 1) (fun I _ _ v => rx_fit I 1 v))), some (.inl (fun _ => rx_h_iinc 3 2 1))]
noncomputable def rxE171_5 : List (Option rx_Ent) := [none, none, some (.inl (fun _ => rx_q_goto 9)), none, none, some (.inl (fun _ => rx_q_loadA 0 1)), some (.inl (fun _ => rx_h_push (rx_n 1000000) 3)), none, none, some (.inl (fun _ => rx_q_put (12, 58, 0, false, false) false)), none, none, some (.inl (fun _ => rx_q_loadA 0 1)), some (.inl (fun _ => rx_h_push (rx_n 0) 1)), some (.inl (fun _ => rx_q_put (12, 59, 0, false, false) false))]
noncomputable def rxE171_6 : List (Option rx_Ent) := [none, some (.inl (fun _ => rx_q_load 0 1 1)), some (.inl (fun _ => rx_q_if .ne 107 101)), none, none, some (.inl (fun _ => rx_q_loadA 0 1)), some (.inl (fun _ => rx_h_push (rx_n 0) 1)), some (.inr (.inr (170, rxM170, rx_q_vcall rxM171 rxM170 1 12))), none, none, some (.inr (.inl (rx_q_retv 0 0)))]
noncomputable def rxE171 : List (List (Option rx_Ent)) := [rxE171_0, rxE171_1, [], [], rxE171_4, rxE171_5, rxE171_6]
noncomputable def rxE172_0 : List (Option rx_Ent) := [some (.inl (fun _ => rx_q_loadA 0 1)), some (.inl (fun _ => rx_h_dup)), some (.inl (fun _ => rx_q_get (12, 69, 0, false, false))), none, none, some (.inl (fun _ => rx_h_push (rx_n 1) 1)), some (.inl (fun _ => rx_h_bin 0)), some (.inl (fun _ => rx_q_put (12, 69, 0, false, false) false)), none, none, some (.inl (fun _ => rx_h_push (rx_n 0) 1)), some (.inl (fun _ => rx_h_istore 7 4 2)), none, some (.inl (fun _ => rx_h_push (rx_n 0) 1)), some (.inl (fun _ => rx_h_istore 7 5 2))]
noncomputable def rxE172_1 : List (Option rx_Ent) := [some (.inl (fun _ => rx_q_load 0 5 2)), none, some (.inl (fun _ => rx_q_loadA 0 1)), some (.inl (fun _ => rx_q_get (12, 3, 3, true, false))), none, none, some (.inl (fun _ => rx_h_push (rx_n 6) 2)), none, some (.inl (fun _ => rx_q_ald (rx_isTc 0))), some (.inl (fun _ => rx_q_icmp .ge 91 28))]
noncomputable def rxE172_5 : List (Option rx_Ent) := [none, none, none, none, none, none, none, none, none, none, none, some (.inl (fun _ => rx_h_push (rx_n 0) 1)), some (.inl (fun _ => rx_h_istore 7 5 2)), none, some (.inl (fun _ => rx_q_load 0 5 2))]
noncomputable def rxE172_6 : List (Option rx_Ent) := [some (.inl (fun _ => rx_q_load 0 1 1)), some (.inl (fun _ => rx_q_icmp .ge 162 100)), none, none, some (.inl (fun _ => rx_q_loadA 0 1)), some (.inl (fun _ => rx_q_get (12, 63, 3, true, false))), none, none, some (.inl (fun _ => rx_h_push (rx_n 6) 2)), none, some (.inl (fun _ => rx_q_load 0 5 2)), none, some (.inl (fun _ => rx_h_bin 2)), some (.inl (fun _ => rx_q_load 0 3 1)), some (.inl (fun _ => rx_h_bin 0)), some (.inl (fun _ => rx_q_ald (rx_isTc 0)))]
noncomputable def rxE172_7 : List (Option rx_Ent) := [some (.inl (fun _ => rx_h_istore 7 6 2)), none, some (.inl (fun _ => rx_q_loadA 0 1)), some (.inl (fun _ => rx_h_dup)), some (.inl (fun _ => rx_q_get (12, 70, 0, false, false))), none, none, some (.inl (fun _ => rx_q_load 0 4 2)), none, some (.inl (fun _ => rx_h_push (rx_n (-1)) 1)), some (.inl (fun _ => rx_q_icmp .eq 136 125)), none, none, some (.inl (fun _ => rx_q_load 0 4 2)), none, some (.inl (fun _ => rx_q_load 0 5 2))]
noncomputable def rxE172_8 : List (Option rx_Ent) := [none, some (.inl (fun _ => rx_q_icmp .eq 136 132)), none, none, none, none, none, none, some (.inl (fun _ => rx_q_load 0 6 2)), none, some (.inl (fun _ => rx_h_push (rx_n (-1)) 1)), some (.inl (fun _ => rx_q_icmp .ne 148 142)), none, none, some (.inl (fun _ => rx_h_push (rx_n 1023) 3))]
noncomputable def rxE172_9 : List (Option rx_Ent) := [none, some (.inl (fun _ => rx_q_goto 152)), none, none, none, none, none, none, some (.inl (fun _ => rx_h_bin 6)), some (.inl (fun _ => rx_q_put (12, 70, 0, false, false) false)), none, none, some (.inl (fun _ => rx_h_iinc 7 5 1)), none, none, some (.inl (fun _ => rx_q_goto 94))]
noncomputable def rxE172_10 : List (Option rx_Ent) := [none, none, some (.inr (.inl (rx_q_retv 0 0)))]
noncomputable def rxE172 : List (List (Option rx_Ent)) := [rxE172_0, rxE172_1, [], [], [], rxE172_5, rxE172_6, rxE172_7, rxE172_8, rxE172_9, rxE172_10]
noncomputable def rxE173_0 : List (Option rx_Ent) := [some (.inl (fun _ => rx_h_push (rx_n 0) 1)), some (.inl (fun _ => rx_h_istore 4 1 1)), some (.inl (fun _ => rx_h_push (rx_n 0) 1)), some (.inl (fun _ => rx_h_istore 4 2 1)), some (.inl (fun _ => rx_q_load 0 2 1)), some (.inl (fun _ => rx_h_push (rx_n 4) 1)), some (.inl (fun _ => rx_q_icmp .ge 66 9)), none, none, some (.inl (fun _ => rx_h_push (rx_n 0) 1)), some (.inl (fun _ => rx_h_istore 4 3 1)), some (.inl (fun _ => rx_q_load 0 3 1)), some (.inl (fun _ => rx_q_loadA 0 1)), some (.inl (fun _ => rx_q_get (12, 3, 3, true, false)))]
noncomputable def rxE173_1 : List (Option rx_Ent) := [some (.inl (fun _ => rx_h_push (rx_n 6) 2)), none, some (.inl (fun _ => rx_q_ald (rx_isTc 0))), some (.inl (fun _ => rx_q_icmp .ge 60 22))]
noncomputable def rxE173_3 : List (Option rx_Ent) := [none, none, none, none, none, none, none, none, none, none, none, none, some (.inl (fun _ => rx_h_iinc 4 2 1)), none, none, some (.inl (fun _ => rx_q_goto 4))]
noncomputable def rxE173_4 : List (Option rx_Ent) := [none, none, some (.inr (.inl (rx_q_retv 0 0)))]
noncomputable def rxE173 : List (List (Option rx_Ent)) := [rxE173_0, rxE173_1, [], rxE173_3, rxE173_4]
noncomputable def rxE174_0 : List (Option rx_Ent) := [some (.inl (fun _ => rx_q_loadA 0 1)), some (.inl (fun _ => rx_q_get (12, 3, 3, true, false))), none, none, some (.inl (fun _ => rx_h_push (rx_n 6) 2)), none, some (.inl (fun _ => rx_q_ald (rx_isTc 0))), some (.inl (fun _ => rx_h_istore 6 4 2)), none, some (.inl (fun _ => rx_q_loadA 0 1)), some (.inl (fun _ => rx_h_push (rx_n 0) 1)), some (.inl (fun _ => rx_q_put (12, 69, 0, false, false) false)), none, none, some (.inl (fun _ => rx_q_loadA 0 1)), some (.inl (fun _ => rx_h_push (rx_n 0) 1))]
noncomputable def rxE174_1 : List (Option rx_Ent) := [some (.inl (fun _ => rx_q_put (12, 70, 0, false, false) false)), none, none, some (.inl (fun _ => rx_h_push (rx_n 0) 1)), some (.inl (fun _ => rx_h_istore 6 5 2)), none, some (.inl (fun _ => rx_q_load 0 5 2)), none, some (.inl (fun _ => rx_h_push (rx_n 18) 2)), none, some (.inl (fun _ => rx_q_icmp .ge 51 29)), none, none, some (.inl (fun _ => rx_q_loadA 0 1)), some (.inl (fun _ => rx_q_get (12, 63, 3, true, false)))]
noncomputable def rxE174_2 : List (Option rx_Ent) := [none, some (.inl (fun _ => rx_q_load 0 5 2)), none, some (.inl (fun _ => rx_h_push (rx_n (-1)) 1)), some (.inl (fun _ => rx_q_ast (rx_isTc 0) (fun I _ _ v => rx_fit I 0 v))), some (.inl (fun _ => rx_q_loadA 0 1)), some (.inl (fun _ => rx_q_get (12, 64, 3, true, false))), none, none, some (.inl (fun _ => rx_q_load 0 5 2)), none, some (.inl (fun _ => rx_h_push (rx_n (-1)) 1)), some (.inl (fun _ => rx_q_ast (rx_isTc 0) (fun I _ _ v => rx_fit I 0 v))), some (.inl (fun _ => rx_h_iinc 6 5 1))]
noncomputable def rxE174_3 : List (Option rx_Ent) := [some (.inl (fun _ => rx_q_goto 22)), none, none, some (.inl (fun _ => rx_h_push (rx_n 0) 1)), some (.inl (fun _ => rx_h_istore 6 5 2)), none, some (.inl (fun _ => rx_q_load 0 5 2)), none, some (.inl (fun _ => rx_h_push (rx_n 12) 2)), none, some (.inl (fun _ => rx_q_icmp .ge 83 61)), none, none, some (.inl (fun _ => rx_q_loadA 0 1)), some (.inl (fun _ => rx_q_get (12, 65, 3, true, false)))]
noncomputable def rxE174_4 : List (Option rx_Ent) := [none, some (.inl (fun _ => rx_q_load 0 5 2)), none, some (.inl (fun _ => rx_h_push (rx_n 0) 1)), some (.inl (fun _ => rx_q_ast (rx_isTc 1) (fun I _ _ v => rx_fit I 1 v))), some (.inl (fun _ => rx_q_loadA 0 1)), some (.inl (fun _ => rx_q_get (12, 66, 3, true, false))), none, none, some (.inl (fun _ => rx_q_load 0 5 2)), none, some (.inl (fun _ => rx_h_push (rx_n 0) 1)), some (.inl (fun _ => rx_q_ast (rx_isTc 1) (fun I _ _ v => rx_fit I 1 v))), some (.inl (fun _ => rx_h_iinc 6 5 1))]
noncomputable def rxE174_5 : List (Option rx_Ent) := [some (.inl (fun _ => rx_q_goto 54)), none, none, some (.inl (fun _ => rx_q_loadA 0 1)), some (.inl (fun _ => rx_q_get (12, 62, 3, true, false))), none, none, some (.inl (fun _ => rx_h_push (rx_n 0) 1)), some (.inl (fun _ => rx_h_push (rx_n 0) 1)), some (.inl (fun _ => rx_q_ast (rx_isTc 0) (fun I _ _ v => rx_fit I 0 v))), some (.inl (fun _ => rx_q_loadA 0 1)), some (.inl (fun _ => rx_q_get (12, 67, 3, true, false))), none, none, some (.inl (fun _ => rx_h_push (rx_n 0) 1)), some (.inl (fun _ => rx_h_push (rx_n 1) 1))]
noncomputable def rxE174_6 : List (Option rx_Ent) := [some (.inl (fun _ => rx_q_ast (rx_isTc 0) (fun I _ _ v => rx_fit I 0 v))), some (.inl (fun _ => rx_q_load 0 4 2)), none, some (.inl (fun _ => rx_q_if .ne 110 102)), none, none, some (.inl (fun _ => rx_q_loadA 0 1)), some (.inl (fun _ => rx_q_load 0 1 1)), some (.inl (fun _ => rx_q_load 0 2 1)), some (.inl (fun _ => rx_q_load 0 3 1)), some (.inr (.inr (172, rxM172, rx_q_vcall rxM174 rxM172 3 12))), none, none, some (.inr (.inl (rx_q_retv 0 0)))]
noncomputable def rxE174 : List (List (Option rx_Ent)) := [rxE174_0, rxE174_1, rxE174_2, rxE174_3, rxE174_4, rxE174_5, rxE174_6]
noncomputable def rxE175_0 : List (Option rx_Ent) := [some (.inl (fun _ => rx_q_loadA 0 1)), some (.inr (.inr (173, rxM173, rx_q_vcall rxM175 rxM173 0 12))), none, none, some (.inl (fun _ => rx_h_push (rx_n 1) 1)), some (.inl (fun _ => rx_h_istore 4 3 1)), some (.inl (fun _ => rx_q_load 0 3 1)), some (.inl (fun _ => rx_h_push (rx_n 4) 1)), some (.inl (fun _ => rx_q_icmp .ge 33 11)), none, none, some (.inl (fun _ => rx_q_loadA 0 1)), some (.inl (fun _ => rx_q_load 0 3 1)), some (.inl (fun _ => rx_q_load 0 1 1)), some (.inl (fun _ => rx_q_load 0 2 1)), some (.inr (.inr (174, rxM174, rx_q_vcall rxM175 rxM174 3 12)))]
noncomputable def rxE175_1 : List (Option rx_Ent) := [none, none, some (.inl (fun _ => rx_q_loadA 0 1)), some (.inl (fun _ => rx_q_get (12, 69, 0, false, false))), none, none, some (.inl (fun _ => rx_q_if .le 27 25)), none, none, some (.inl (fun _ => rx_q_load 0 3 1)), some (.inr (.inl (rx_q_reti 0 0)))]
noncomputable def rxE175 : List (List (Option rx_Ent)) := [rxE175_0, rxE175_1]
noncomputable def rxE176_0 : List (Option rx_Ent) := [some (.inl (fun _ => rx_q_new (11, [3, 3, 3, 3, 0, 3, 3, 0, 0, 3, 3, 3, 3, 3, 3, 3, 1, 3, 3, 0]) 600000 7302250)), none, none, some (.inl (fun _ => rx_h_dup)), some (.inr (.inr (12, rxM12, rx_q_vcall rxMlaw rxM12 0 11))), none, none, some (.inl (fun _ => rx_h_astore 4 1 1)), some (.inl (fun _ => rx_q_new (12, [0, 0, 3, 3, 3, 3, 0, 3, 0, 0, 0, 0, 2, 0, 1, 1, 0, 3, 0, 3, 3, 0, 3, 3, 0, 0, 3, 3, 0, 3, 3, 3, 1, 2, 2, 3, 3, 0, 3, 3, 3, 3, 0, 3, 3, 0, 0, 0, 0, 0, 3, 3, 3, 3, 0, 3, 3, 3, 0, 0, 3, 3, 3, 3, 3, 3, 3, 3, 3, 0, 0, 2, 3, 3, 0, 1]) 600000 7302250)), none, none, some (.inl (fun _ => rx_h_dup)), some (.inr (.inr (11, rxM11, rx_q_vcall rxMlaw rxM11 0 12))), none, none, some (.inl (fun _ => rx_h_astore 4 2 1))]
noncomputable def rxE176_1 : List (Option rx_Ent) := [some (.inl (fun _ => rx_h_push (rx_n 0) 1)), some (.inl (fun _ => rx_h_istore 4 3 1)), some (.inl (fun _ => rx_q_load 0 3 1)), some (.inl (fun _ => rx_q_loadA 0 1)), some (.inl (fun _ => rx_h_alen)), some (.inl (fun _ => rx_h_push (rx_n 6) 2)), none, some (.inl (fun _ => rx_h_bin 1)), some (.inl (fun _ => rx_q_icmp .gt 1832 27)), none, none, some (.inl (fun _ => rx_q_loadA 0 1)), some (.inl (fun _ => rx_q_load 0 3 1)), some (.inl (fun _ => rx_q_sld)), some (.inl (fun _ => rx_h_push (rx_n 63) 2))]
noncomputable def rxE176_2 : List (Option rx_Ent) := [some (.inl (fun _ => rx_h_bin 5)), some (.inl (fun _ => rx_h_table 1793 0 47 #[207, 240, 303, 346, 399, 432, 475, 518, 551, 584, 647, 670, 693, 706, 729, 742, 755, 778, 831, 854, 867, 900, 943, 956, 989, 1042, 1075, 1098, 1141, 1174, 1227, 1280, 1313, 1347, 1390, 1424, 1467, 1490, 1533, 1546, 1569, 1592, 1625, 1668, 1711, 1734, 1757, 1780]))]
noncomputable def rxE176_15 : List (Option rx_Ent) := [some (.inl (fun _ => rx_q_loadA 1 1)), some (.inl (fun _ => rx_q_loadA 0 1)), some (.inl (fun _ => rx_q_load 0 3 1)), some (.inl (fun _ => rx_h_push (rx_n 1) 1)), some (.inl (fun _ => rx_h_bin 0)), some (.inl (fun _ => rx_q_sld)), some (.inl (fun _ => rx_q_loadA 0 1)), some (.inl (fun _ => rx_q_load 0 3 1)), some (.inl (fun _ => rx_h_push (rx_n 2) 1)), some (.inl (fun _ => rx_h_bin 0)), some (.inl (fun _ => rx_q_sld)), some (.inr (.inr (74, rxM74, rx_q_vcall rxMlaw rxM74 2 11))), none, none, some (.inl (fun _ => rx_q_loadA 2 1)), some (.inl (fun _ => rx_q_loadA 0 1))]
noncomputable def rxE176_16 : List (Option rx_Ent) := [some (.inl (fun _ => rx_q_load 0 3 1)), some (.inl (fun _ => rx_h_push (rx_n 1) 1)), some (.inl (fun _ => rx_h_bin 0)), some (.inl (fun _ => rx_q_sld)), some (.inl (fun _ => rx_q_loadA 0 1)), some (.inl (fun _ => rx_q_load 0 3 1)), some (.inl (fun _ => rx_h_push (rx_n 2) 1)), some (.inl (fun _ => rx_h_bin 0)), some (.inl (fun _ => rx_q_sld)), some (.inr (.inr (95, rxM95, rx_q_vcall rxMlaw rxM95 2 12))), none, none, some (.inl (fun _ => rx_q_icmp .eq 1826 271))]
noncomputable def rxE176_17 : List (Option rx_Ent) := [none, some (.inl (fun _ => rx_q_loadA 1 1)), some (.inl (fun _ => rx_q_loadA 0 1)), some (.inl (fun _ => rx_q_load 0 3 1)), some (.inl (fun _ => rx_h_push (rx_n 1) 1)), some (.inl (fun _ => rx_h_bin 0)), some (.inl (fun _ => rx_q_sld)), some (.inl (fun _ => rx_q_loadA 0 1)), some (.inl (fun _ => rx_q_load 0 3 1)), some (.inl (fun _ => rx_h_push (rx_n 2) 1)), some (.inl (fun _ => rx_h_bin 0)), some (.inl (fun _ => rx_q_sld)), some (.inl (fun _ => rx_q_loadA 0 1)), some (.inl (fun _ => rx_q_load 0 3 1)), some (.inl (fun _ => rx_h_push (rx_n 3) 1)), some (.inl (fun _ => rx_h_bin 0))]
noncomputable def rxE176_18 : List (Option rx_Ent) := [some (.inl (fun _ => rx_q_sld)), some (.inl (fun _ => rx_q_loadA 0 1)), some (.inl (fun _ => rx_q_load 0 3 1)), some (.inl (fun _ => rx_h_push (rx_n 4) 1)), some (.inl (fun _ => rx_h_bin 0)), some (.inl (fun _ => rx_q_sld)), some (.inl (fun _ => rx_q_loadA 0 1)), some (.inl (fun _ => rx_q_load 0 3 1)), some (.inl (fun _ => rx_h_push (rx_n 5) 1)), some (.inl (fun _ => rx_h_bin 0)), some (.inl (fun _ => rx_q_sld)), some (.inr (.inr (101, rxM101, rx_q_vcall rxMlaw rxM101 5 11))), none, none, some (.inl (fun _ => rx_q_loadA 2 1)), some (.inl (fun _ => rx_q_loadA 0 1))]
noncomputable def rxE176_19 : List (Option rx_Ent) := [some (.inl (fun _ => rx_q_load 0 3 1)), some (.inl (fun _ => rx_h_push (rx_n 1) 1)), some (.inl (fun _ => rx_h_bin 0)), some (.inl (fun _ => rx_q_sld)), some (.inl (fun _ => rx_q_loadA 0 1)), some (.inl (fun _ => rx_q_load 0 3 1)), some (.inl (fun _ => rx_h_push (rx_n 2) 1)), some (.inl (fun _ => rx_h_bin 0)), some (.inl (fun _ => rx_q_sld)), some (.inl (fun _ => rx_q_loadA 0 1)), some (.inl (fun _ => rx_q_load 0 3 1)), some (.inl (fun _ => rx_h_push (rx_n 3) 1)), some (.inl (fun _ => rx_h_bin 0)), some (.inl (fun _ => rx_q_sld)), some (.inl (fun _ => rx_q_loadA 0 1)), some (.inl (fun _ => rx_q_load 0 3 1))]
noncomputable def rxE176_20 : List (Option rx_Ent) := [some (.inl (fun _ => rx_h_push (rx_n 4) 1)), some (.inl (fun _ => rx_h_bin 0)), some (.inl (fun _ => rx_q_sld)), some (.inl (fun _ => rx_q_loadA 0 1)), some (.inl (fun _ => rx_q_load 0 3 1)), some (.inl (fun _ => rx_h_push (rx_n 5) 1)), some (.inl (fun _ => rx_h_bin 0)), some (.inl (fun _ => rx_q_sld)), some (.inr (.inr (118, rxM118, rx_q_vcall rxMlaw rxM118 5 12))), none, none, some (.inl (fun _ => rx_q_icmp .eq 1826 334))]
noncomputable def rxE176_21 : List (Option rx_Ent) := [some (.inl (fun _ => rx_q_loadA 1 1)), some (.inl (fun _ => rx_q_loadA 0 1)), some (.inl (fun _ => rx_q_load 0 3 1)), some (.inl (fun _ => rx_h_push (rx_n 1) 1)), some (.inl (fun _ => rx_h_bin 0)), some (.inl (fun _ => rx_q_sld)), some (.inl (fun _ => rx_q_loadA 0 1)), some (.inl (fun _ => rx_q_load 0 3 1)), some (.inl (fun _ => rx_h_push (rx_n 2) 1)), some (.inl (fun _ => rx_h_bin 0)), some (.inl (fun _ => rx_q_sld)), some (.inl (fun _ => rx_q_loadA 0 1)), some (.inl (fun _ => rx_q_load 0 3 1)), some (.inl (fun _ => rx_h_push (rx_n 3) 1)), some (.inl (fun _ => rx_h_bin 0)), some (.inl (fun _ => rx_q_sld))]
noncomputable def rxE176_22 : List (Option rx_Ent) := [some (.inr (.inr (119, rxM119, rx_q_vcall rxMlaw rxM119 3 11))), none, none, some (.inl (fun _ => rx_q_loadA 2 1)), some (.inl (fun _ => rx_q_loadA 0 1)), some (.inl (fun _ => rx_q_load 0 3 1)), some (.inl (fun _ => rx_h_push (rx_n 1) 1)), some (.inl (fun _ => rx_h_bin 0)), some (.inl (fun _ => rx_q_sld)), some (.inl (fun _ => rx_q_loadA 0 1)), some (.inl (fun _ => rx_q_load 0 3 1)), some (.inl (fun _ => rx_h_push (rx_n 2) 1)), some (.inl (fun _ => rx_h_bin 0)), some (.inl (fun _ => rx_q_sld)), some (.inl (fun _ => rx_q_loadA 0 1)), some (.inl (fun _ => rx_q_load 0 3 1))]
noncomputable def rxE176_23 : List (Option rx_Ent) := [some (.inl (fun _ => rx_h_push (rx_n 3) 1)), some (.inl (fun _ => rx_h_bin 0)), some (.inl (fun _ => rx_q_sld)), some (.inr (.inr (120, rxM120, rx_q_vcall rxMlaw rxM120 3 12))), none, none, some (.inl (fun _ => rx_q_icmp .eq 1826 377)), none, none, none, none, some (.inl (fun _ => rx_q_loadA 1 1)), some (.inl (fun _ => rx_q_loadA 0 1)), some (.inl (fun _ => rx_q_load 0 3 1)), some (.inl (fun _ => rx_h_push (rx_n 1) 1)), some (.inl (fun _ => rx_h_bin 0))]
noncomputable def rxE176_24 : List (Option rx_Ent) := [some (.inl (fun _ => rx_q_sld)), some (.inl (fun _ => rx_q_loadA 0 1)), some (.inl (fun _ => rx_q_load 0 3 1)), some (.inl (fun _ => rx_h_push (rx_n 2) 1)), some (.inl (fun _ => rx_h_bin 0)), some (.inl (fun _ => rx_q_sld)), some (.inl (fun _ => rx_q_loadA 0 1)), some (.inl (fun _ => rx_q_load 0 3 1)), some (.inl (fun _ => rx_h_push (rx_n 3) 1)), some (.inl (fun _ => rx_h_bin 0)), some (.inl (fun _ => rx_q_sld)), some (.inl (fun _ => rx_q_loadA 0 1)), some (.inl (fun _ => rx_q_load 0 3 1)), some (.inl (fun _ => rx_h_push (rx_n 4) 1)), some (.inl (fun _ => rx_h_bin 0)), some (.inl (fun _ => rx_q_sld))]
noncomputable def rxE176_25 : List (Option rx_Ent) := [some (.inr (.inr (121, rxM121, rx_q_vcall rxMlaw rxM121 4 11))), none, none, some (.inl (fun _ => rx_q_loadA 2 1)), some (.inl (fun _ => rx_q_loadA 0 1)), some (.inl (fun _ => rx_q_load 0 3 1)), some (.inl (fun _ => rx_h_push (rx_n 1) 1)), some (.inl (fun _ => rx_h_bin 0)), some (.inl (fun _ => rx_q_sld)), some (.inl (fun _ => rx_q_loadA 0 1)), some (.inl (fun _ => rx_q_load 0 3 1)), some (.inl (fun _ => rx_h_push (rx_n 2) 1)), some (.inl (fun _ => rx_h_bin 0)), some (.inl (fun _ => rx_q_sld)), some (.inl (fun _ => rx_q_loadA 0 1)), some (.inl (fun _ => rx_q_load 0 3 1))]
noncomputable def rxE176_26 : List (Option rx_Ent) := [some (.inl (fun _ => rx_h_push (rx_n 3) 1)), some (.inl (fun _ => rx_h_bin 0)), some (.inl (fun _ => rx_q_sld)), some (.inl (fun _ => rx_q_loadA 0 1)), some (.inl (fun _ => rx_q_load 0 3 1)), some (.inl (fun _ => rx_h_push (rx_n 4) 1)), some (.inl (fun _ => rx_h_bin 0)), some (.inl (fun _ => rx_q_sld)), some (.inr (.inr (122, rxM122, rx_q_vcall rxMlaw rxM122 4 12))), none, none, some (.inl (fun _ => rx_q_icmp .eq 1826 430))]
noncomputable def rxE176_27 : List (Option rx_Ent) := [some (.inl (fun _ => rx_q_loadA 1 1)), some (.inl (fun _ => rx_q_loadA 0 1)), some (.inl (fun _ => rx_q_load 0 3 1)), some (.inl (fun _ => rx_h_push (rx_n 1) 1)), some (.inl (fun _ => rx_h_bin 0)), some (.inl (fun _ => rx_q_sld)), some (.inl (fun _ => rx_q_loadA 0 1)), some (.inl (fun _ => rx_q_load 0 3 1)), some (.inl (fun _ => rx_h_push (rx_n 2) 1)), some (.inl (fun _ => rx_h_bin 0)), some (.inl (fun _ => rx_q_sld)), some (.inr (.inr (123, rxM123, rx_q_vcall rxMlaw rxM123 2 11))), none, none, some (.inl (fun _ => rx_q_loadA 2 1)), some (.inl (fun _ => rx_q_loadA 0 1))]
noncomputable def rxE176_28 : List (Option rx_Ent) := [some (.inl (fun _ => rx_q_load 0 3 1)), some (.inl (fun _ => rx_h_push (rx_n 1) 1)), some (.inl (fun _ => rx_h_bin 0)), some (.inl (fun _ => rx_q_sld)), some (.inl (fun _ => rx_q_loadA 0 1)), some (.inl (fun _ => rx_q_load 0 3 1)), some (.inl (fun _ => rx_h_push (rx_n 2) 1)), some (.inl (fun _ => rx_h_bin 0)), some (.inl (fun _ => rx_q_sld)), some (.inr (.inr (124, rxM124, rx_q_vcall rxMlaw rxM124 2 12))), none, none, some (.inl (fun _ => rx_q_icmp .eq 1826 463))]
noncomputable def rxE176_29 : List (Option rx_Ent) := [none, some (.inl (fun _ => rx_q_loadA 1 1)), some (.inl (fun _ => rx_q_loadA 0 1)), some (.inl (fun _ => rx_q_load 0 3 1)), some (.inl (fun _ => rx_h_push (rx_n 1) 1)), some (.inl (fun _ => rx_h_bin 0)), some (.inl (fun _ => rx_q_sld)), some (.inl (fun _ => rx_q_loadA 0 1)), some (.inl (fun _ => rx_q_load 0 3 1)), some (.inl (fun _ => rx_h_push (rx_n 2) 1)), some (.inl (fun _ => rx_h_bin 0)), some (.inl (fun _ => rx_q_sld)), some (.inl (fun _ => rx_q_loadA 0 1)), some (.inl (fun _ => rx_q_load 0 3 1)), some (.inl (fun _ => rx_h_push (rx_n 3) 1)), some (.inl (fun _ => rx_h_bin 0))]
noncomputable def rxE176_30 : List (Option rx_Ent) := [some (.inl (fun _ => rx_q_sld)), some (.inr (.inr (125, rxM125, rx_q_vcall rxMlaw rxM125 3 11))), none, none, some (.inl (fun _ => rx_q_loadA 2 1)), some (.inl (fun _ => rx_q_loadA 0 1)), some (.inl (fun _ => rx_q_load 0 3 1)), some (.inl (fun _ => rx_h_push (rx_n 1) 1)), some (.inl (fun _ => rx_h_bin 0)), some (.inl (fun _ => rx_q_sld)), some (.inl (fun _ => rx_q_loadA 0 1)), some (.inl (fun _ => rx_q_load 0 3 1)), some (.inl (fun _ => rx_h_push (rx_n 2) 1)), some (.inl (fun _ => rx_h_bin 0)), some (.inl (fun _ => rx_q_sld)), some (.inl (fun _ => rx_q_loadA 0 1))]
noncomputable def rxE176_31 : List (Option rx_Ent) := [some (.inl (fun _ => rx_q_load 0 3 1)), some (.inl (fun _ => rx_h_push (rx_n 3) 1)), some (.inl (fun _ => rx_h_bin 0)), some (.inl (fun _ => rx_q_sld)), some (.inr (.inr (126, rxM126, rx_q_vcall rxMlaw rxM126 3 12))), none, none, some (.inl (fun _ => rx_q_icmp .eq 1826 506)), none, none, none, none, some (.inl (fun _ => rx_q_loadA 1 1)), some (.inl (fun _ => rx_q_loadA 0 1)), some (.inl (fun _ => rx_q_load 0 3 1)), some (.inl (fun _ => rx_h_push (rx_n 1) 1))]
noncomputable def rxE176_32 : List (Option rx_Ent) := [some (.inl (fun _ => rx_h_bin 0)), some (.inl (fun _ => rx_q_sld)), some (.inl (fun _ => rx_q_loadA 0 1)), some (.inl (fun _ => rx_q_load 0 3 1)), some (.inl (fun _ => rx_h_push (rx_n 2) 1)), some (.inl (fun _ => rx_h_bin 0)), some (.inl (fun _ => rx_q_sld)), some (.inl (fun _ => rx_q_loadA 0 1)), some (.inl (fun _ => rx_q_load 0 3 1)), some (.inl (fun _ => rx_h_push (rx_n 3) 1)), some (.inl (fun _ => rx_h_bin 0)), some (.inl (fun _ => rx_q_sld)), some (.inr (.inr (127, rxM127, rx_q_vcall rxMlaw rxM127 3 11))), none, none, some (.inl (fun _ => rx_q_loadA 2 1))]
noncomputable def rxE176_33 : List (Option rx_Ent) := [some (.inl (fun _ => rx_q_loadA 0 1)), some (.inl (fun _ => rx_q_load 0 3 1)), some (.inl (fun _ => rx_h_push (rx_n 1) 1)), some (.inl (fun _ => rx_h_bin 0)), some (.inl (fun _ => rx_q_sld)), some (.inl (fun _ => rx_q_loadA 0 1)), some (.inl (fun _ => rx_q_load 0 3 1)), some (.inl (fun _ => rx_h_push (rx_n 2) 1)), some (.inl (fun _ => rx_h_bin 0)), some (.inl (fun _ => rx_q_sld)), some (.inl (fun _ => rx_q_loadA 0 1)), some (.inl (fun _ => rx_q_load 0 3 1)), some (.inl (fun _ => rx_h_push (rx_n 3) 1)), some (.inl (fun _ => rx_h_bin 0)), some (.inl (fun _ => rx_q_sld)), some (.inr (.inr (128, rxM128, rx_q_vcall rxMlaw rxM128 3 12)))]
noncomputable def rxE176_34 : List (Option rx_Ent) := [none, none, some (.inl (fun _ => rx_q_icmp .eq 1826 549)), none, none, none, none, some (.inl (fun _ => rx_q_loadA 1 1)), some (.inl (fun _ => rx_q_loadA 0 1)), some (.inl (fun _ => rx_q_load 0 3 1)), some (.inl (fun _ => rx_h_push (rx_n 1) 1)), some (.inl (fun _ => rx_h_bin 0)), some (.inl (fun _ => rx_q_sld)), some (.inl (fun _ => rx_q_loadA 0 1)), some (.inl (fun _ => rx_q_load 0 3 1)), some (.inl (fun _ => rx_h_push (rx_n 2) 1))]
noncomputable def rxE176_35 : List (Option rx_Ent) := [some (.inl (fun _ => rx_h_bin 0)), some (.inl (fun _ => rx_q_sld)), some (.inr (.inr (129, rxM129, rx_q_vcall rxMlaw rxM129 2 11))), none, none, some (.inl (fun _ => rx_q_loadA 2 1)), some (.inl (fun _ => rx_q_loadA 0 1)), some (.inl (fun _ => rx_q_load 0 3 1)), some (.inl (fun _ => rx_h_push (rx_n 1) 1)), some (.inl (fun _ => rx_h_bin 0)), some (.inl (fun _ => rx_q_sld)), some (.inl (fun _ => rx_q_loadA 0 1)), some (.inl (fun _ => rx_q_load 0 3 1)), some (.inl (fun _ => rx_h_push (rx_n 2) 1)), some (.inl (fun _ => rx_h_bin 0)), some (.inl (fun _ => rx_q_sld))]
noncomputable def rxE176_36 : List (Option rx_Ent) := [some (.inr (.inr (130, rxM130, rx_q_vcall rxMlaw rxM130 2 12))), none, none, some (.inl (fun _ => rx_q_icmp .eq 1826 582)), none, none, none, none, some (.inl (fun _ => rx_q_loadA 1 1)), some (.inl (fun _ => rx_q_loadA 0 1)), some (.inl (fun _ => rx_q_load 0 3 1)), some (.inl (fun _ => rx_h_push (rx_n 1) 1)), some (.inl (fun _ => rx_h_bin 0)), some (.inl (fun _ => rx_q_sld)), some (.inl (fun _ => rx_q_loadA 0 1)), some (.inl (fun _ => rx_q_load 0 3 1))]
noncomputable def rxE176_37 : List (Option rx_Ent) := [some (.inl (fun _ => rx_h_push (rx_n 2) 1)), some (.inl (fun _ => rx_h_bin 0)), some (.inl (fun _ => rx_q_sld)), some (.inr (.inr (131, rxM131, rx_q_vcall rxMlaw rxM131 2 11))), none, none, some (.inl (fun _ => rx_q_loadA 2 1)), some (.inl (fun _ => rx_q_loadA 0 1)), some (.inl (fun _ => rx_q_load 0 3 1)), some (.inl (fun _ => rx_h_push (rx_n 1) 1)), some (.inl (fun _ => rx_h_bin 0)), some (.inl (fun _ => rx_q_sld)), some (.inl (fun _ => rx_q_loadA 0 1)), some (.inl (fun _ => rx_q_load 0 3 1)), some (.inl (fun _ => rx_h_push (rx_n 2) 1)), some (.inl (fun _ => rx_h_bin 0))]
noncomputable def rxE176_38 : List (Option rx_Ent) := [some (.inl (fun _ => rx_q_sld)), some (.inr (.inr (132, rxM132, rx_q_vcall rxMlaw rxM132 2 12))), none, none, some (.inl (fun _ => rx_q_icmp .eq 1826 615)), none, none, none, none, some (.inl (fun _ => rx_q_loadA 1 1)), some (.inl (fun _ => rx_q_loadA 0 1)), some (.inl (fun _ => rx_q_load 0 3 1)), some (.inl (fun _ => rx_h_push (rx_n 1) 1)), some (.inl (fun _ => rx_h_bin 0)), some (.inl (fun _ => rx_q_sld)), some (.inl (fun _ => rx_q_loadA 0 1))]
noncomputable def rxE176_39 : List (Option rx_Ent) := [some (.inl (fun _ => rx_q_load 0 3 1)), some (.inl (fun _ => rx_h_push (rx_n 2) 1)), some (.inl (fun _ => rx_h_bin 0)), some (.inl (fun _ => rx_q_sld)), some (.inl (fun _ => rx_q_loadA 0 1)), some (.inl (fun _ => rx_q_load 0 3 1)), some (.inl (fun _ => rx_h_push (rx_n 3) 1)), some (.inl (fun _ => rx_h_bin 0)), some (.inl (fun _ => rx_q_sld)), some (.inl (fun _ => rx_q_loadA 0 1)), some (.inl (fun _ => rx_q_load 0 3 1)), some (.inl (fun _ => rx_h_push (rx_n 4) 1)), some (.inl (fun _ => rx_h_bin 0)), some (.inl (fun _ => rx_q_sld)), some (.inl (fun _ => rx_q_loadA 0 1)), some (.inl (fun _ => rx_q_load 0 3 1))]
noncomputable def rxE176_40 : List (Option rx_Ent) := [some (.inl (fun _ => rx_h_push (rx_n 5) 1)), some (.inl (fun _ => rx_h_bin 0)), some (.inl (fun _ => rx_q_sld)), some (.inr (.inr (133, rxM133, rx_q_vcall rxMlaw rxM133 5 11))), none, none, some (.inl (fun _ => rx_q_loadA 2 1)), some (.inl (fun _ => rx_q_loadA 0 1)), some (.inl (fun _ => rx_q_load 0 3 1)), some (.inl (fun _ => rx_h_push (rx_n 1) 1)), some (.inl (fun _ => rx_h_bin 0)), some (.inl (fun _ => rx_q_sld)), some (.inl (fun _ => rx_q_loadA 0 1)), some (.inl (fun _ => rx_q_load 0 3 1)), some (.inl (fun _ => rx_h_push (rx_n 2) 1)), some (.inl (fun _ => rx_h_bin 0))]
noncomputable def rxE176_41 : List (Option rx_Ent) := [some (.inl (fun _ => rx_q_sld)), some (.inl (fun _ => rx_q_loadA 0 1)), some (.inl (fun _ => rx_q_load 0 3 1)), some (.inl (fun _ => rx_h_push (rx_n 3) 1)), some (.inl (fun _ => rx_h_bin 0)), some (.inl (fun _ => rx_q_sld)), some (.inl (fun _ => rx_q_loadA 0 1)), some (.inl (fun _ => rx_q_load 0 3 1)), some (.inl (fun _ => rx_h_push (rx_n 4) 1)), some (.inl (fun _ => rx_h_bin 0)), some (.inl (fun _ => rx_q_sld)), some (.inl (fun _ => rx_q_loadA 0 1)), some (.inl (fun _ => rx_q_load 0 3 1)), some (.inl (fun _ => rx_h_push (rx_n 5) 1)), some (.inl (fun _ => rx_h_bin 0)), some (.inl (fun _ => rx_q_sld))]
noncomputable def rxE176_42 : List (Option rx_Ent) := [some (.inr (.inr (134, rxM134, rx_q_vcall rxMlaw rxM134 5 12))), none, none, some (.inl (fun _ => rx_q_icmp .eq 1826 678)), none, none, none, none, some (.inl (fun _ => rx_q_loadA 1 1)), some (.inl (fun _ => rx_q_loadA 0 1)), some (.inl (fun _ => rx_q_load 0 3 1)), some (.inl (fun _ => rx_h_push (rx_n 1) 1)), some (.inl (fun _ => rx_h_bin 0)), some (.inl (fun _ => rx_q_sld)), some (.inr (.inr (135, rxM135, rx_q_vcall rxMlaw rxM135 1 11)))]
noncomputable def rxE176_43 : List (Option rx_Ent) := [none, some (.inl (fun _ => rx_q_loadA 2 1)), some (.inl (fun _ => rx_q_loadA 0 1)), some (.inl (fun _ => rx_q_load 0 3 1)), some (.inl (fun _ => rx_h_push (rx_n 1) 1)), some (.inl (fun _ => rx_h_bin 0)), some (.inl (fun _ => rx_q_sld)), some (.inr (.inr (136, rxM136, rx_q_vcall rxMlaw rxM136 1 12))), none, none, some (.inl (fun _ => rx_q_icmp .eq 1826 701)), none, none, none, none, some (.inl (fun _ => rx_q_loadA 1 1))]
noncomputable def rxE176_44 : List (Option rx_Ent) := [some (.inl (fun _ => rx_q_loadA 0 1)), some (.inl (fun _ => rx_q_load 0 3 1)), some (.inl (fun _ => rx_h_push (rx_n 1) 1)), some (.inl (fun _ => rx_h_bin 0)), some (.inl (fun _ => rx_q_sld)), some (.inr (.inr (137, rxM137, rx_q_vcall rxMlaw rxM137 1 11))), none, none, some (.inl (fun _ => rx_q_loadA 2 1)), some (.inl (fun _ => rx_q_loadA 0 1)), some (.inl (fun _ => rx_q_load 0 3 1)), some (.inl (fun _ => rx_h_push (rx_n 1) 1)), some (.inl (fun _ => rx_h_bin 0)), some (.inl (fun _ => rx_q_sld)), some (.inr (.inr (138, rxM138, rx_q_vcall rxMlaw rxM138 1 12)))]
noncomputable def rxE176_45 : List (Option rx_Ent) := [none, some (.inl (fun _ => rx_q_icmp .eq 1826 724)), none, none, none, none, some (.inl (fun _ => rx_q_loadA 1 1)), some (.inr (.inr (139, rxM139, rx_q_vcall rxMlaw rxM139 0 11))), none, none, some (.inl (fun _ => rx_q_loadA 2 1)), some (.inr (.inr (140, rxM140, rx_q_vcall rxMlaw rxM140 0 12))), none, none, some (.inl (fun _ => rx_q_icmp .eq 1826 737))]
noncomputable def rxE176_46 : List (Option rx_Ent) := [none, none, none, some (.inl (fun _ => rx_q_loadA 1 1)), some (.inl (fun _ => rx_q_loadA 0 1)), some (.inl (fun _ => rx_q_load 0 3 1)), some (.inl (fun _ => rx_h_push (rx_n 1) 1)), some (.inl (fun _ => rx_h_bin 0)), some (.inl (fun _ => rx_q_sld)), some (.inr (.inr (141, rxM141, rx_q_vcall rxMlaw rxM141 1 11))), none, none, some (.inl (fun _ => rx_q_loadA 2 1)), some (.inl (fun _ => rx_q_loadA 0 1)), some (.inl (fun _ => rx_q_load 0 3 1)), some (.inl (fun _ => rx_h_push (rx_n 1) 1))]
noncomputable def rxE176_47 : List (Option rx_Ent) := [some (.inl (fun _ => rx_h_bin 0)), some (.inl (fun _ => rx_q_sld)), some (.inr (.inr (142, rxM142, rx_q_vcall rxMlaw rxM142 1 12))), none, none, some (.inl (fun _ => rx_q_icmp .eq 1826 760)), none, none, none, none, some (.inl (fun _ => rx_q_loadA 1 1)), some (.inr (.inr (143, rxM143, rx_q_vcall rxMlaw rxM143 0 11))), none, none, some (.inl (fun _ => rx_q_loadA 2 1)), some (.inr (.inr (144, rxM144, rx_q_vcall rxMlaw rxM144 0 12)))]
noncomputable def rxE176_48 : List (Option rx_Ent) := [none, none, some (.inl (fun _ => rx_q_icmp .eq 1826 773)), none, none, none, none, some (.inl (fun _ => rx_q_loadA 1 1)), some (.inr (.inr (145, rxM145, rx_q_vcall rxMlaw rxM145 0 11))), none, none, some (.inl (fun _ => rx_q_loadA 2 1)), some (.inr (.inr (146, rxM146, rx_q_vcall rxMlaw rxM146 0 12))), none, none, some (.inl (fun _ => rx_q_icmp .eq 1826 786))]
noncomputable def rxE176_49 : List (Option rx_Ent) := [none, none, none, none, some (.inl (fun _ => rx_q_loadA 1 1)), some (.inl (fun _ => rx_q_loadA 0 1)), some (.inl (fun _ => rx_q_load 0 3 1)), some (.inl (fun _ => rx_h_push (rx_n 1) 1)), some (.inl (fun _ => rx_h_bin 0)), some (.inl (fun _ => rx_q_sld)), some (.inr (.inr (147, rxM147, rx_q_vcall rxMlaw rxM147 1 11))), none, none, some (.inl (fun _ => rx_q_loadA 2 1)), some (.inl (fun _ => rx_q_loadA 0 1)), some (.inl (fun _ => rx_q_load 0 3 1))]
noncomputable def rxE176_50 : List (Option rx_Ent) := [some (.inl (fun _ => rx_h_push (rx_n 1) 1)), some (.inl (fun _ => rx_h_bin 0)), some (.inl (fun _ => rx_q_sld)), some (.inr (.inr (148, rxM148, rx_q_vcall rxMlaw rxM148 1 12))), none, none, some (.inl (fun _ => rx_q_icmp .eq 1826 809)), none, none, none, none, some (.inl (fun _ => rx_q_loadA 1 1)), some (.inl (fun _ => rx_q_loadA 0 1)), some (.inl (fun _ => rx_q_load 0 3 1)), some (.inl (fun _ => rx_h_push (rx_n 1) 1)), some (.inl (fun _ => rx_h_bin 0))]
noncomputable def rxE176_51 : List (Option rx_Ent) := [some (.inl (fun _ => rx_q_sld)), some (.inl (fun _ => rx_q_loadA 0 1)), some (.inl (fun _ => rx_q_load 0 3 1)), some (.inl (fun _ => rx_h_push (rx_n 2) 1)), some (.inl (fun _ => rx_h_bin 0)), some (.inl (fun _ => rx_q_sld)), some (.inl (fun _ => rx_q_loadA 0 1)), some (.inl (fun _ => rx_q_load 0 3 1)), some (.inl (fun _ => rx_h_push (rx_n 3) 1)), some (.inl (fun _ => rx_h_bin 0)), some (.inl (fun _ => rx_q_sld)), some (.inl (fun _ => rx_q_loadA 0 1)), some (.inl (fun _ => rx_q_load 0 3 1)), some (.inl (fun _ => rx_h_push (rx_n 4) 1)), some (.inl (fun _ => rx_h_bin 0)), some (.inl (fun _ => rx_q_sld))]
noncomputable def rxE176_52 : List (Option rx_Ent) := [some (.inr (.inr (149, rxM149, rx_q_vcall rxMlaw rxM149 4 11))), none, none, some (.inl (fun _ => rx_q_loadA 2 1)), some (.inl (fun _ => rx_q_loadA 0 1)), some (.inl (fun _ => rx_q_load 0 3 1)), some (.inl (fun _ => rx_h_push (rx_n 1) 1)), some (.inl (fun _ => rx_h_bin 0)), some (.inl (fun _ => rx_q_sld)), some (.inl (fun _ => rx_q_loadA 0 1)), some (.inl (fun _ => rx_q_load 0 3 1)), some (.inl (fun _ => rx_h_push (rx_n 2) 1)), some (.inl (fun _ => rx_h_bin 0)), some (.inl (fun _ => rx_q_sld)), some (.inl (fun _ => rx_q_loadA 0 1)), some (.inl (fun _ => rx_q_load 0 3 1))]
noncomputable def rxE176_53 : List (Option rx_Ent) := [some (.inl (fun _ => rx_h_push (rx_n 3) 1)), some (.inl (fun _ => rx_h_bin 0)), some (.inl (fun _ => rx_q_sld)), some (.inl (fun _ => rx_q_loadA 0 1)), some (.inl (fun _ => rx_q_load 0 3 1)), some (.inl (fun _ => rx_h_push (rx_n 4) 1)), some (.inl (fun _ => rx_h_bin 0)), some (.inl (fun _ => rx_q_sld)), some (.inr (.inr (150, rxM150, rx_q_vcall rxMlaw rxM150 4 12))), none, none, some (.inl (fun _ => rx_q_icmp .eq 1826 862))]
noncomputable def rxE176_54 : List (Option rx_Ent) := [some (.inl (fun _ => rx_q_loadA 1 1)), some (.inl (fun _ => rx_q_loadA 0 1)), some (.inl (fun _ => rx_q_load 0 3 1)), some (.inl (fun _ => rx_h_push (rx_n 1) 1)), some (.inl (fun _ => rx_h_bin 0)), some (.inl (fun _ => rx_q_sld)), some (.inr (.inr (151, rxM151, rx_q_vcall rxMlaw rxM151 1 11))), none, none, some (.inl (fun _ => rx_q_loadA 2 1)), some (.inl (fun _ => rx_q_loadA 0 1)), some (.inl (fun _ => rx_q_load 0 3 1)), some (.inl (fun _ => rx_h_push (rx_n 1) 1)), some (.inl (fun _ => rx_h_bin 0)), some (.inl (fun _ => rx_q_sld)), some (.inr (.inr (152, rxM152, rx_q_vcall rxMlaw rxM152 1 12)))]
noncomputable def rxE176_55 : List (Option rx_Ent) := [none, none, some (.inl (fun _ => rx_q_icmp .eq 1826 885)), none, none, none, none, some (.inl (fun _ => rx_q_loadA 1 1)), some (.inr (.inr (153, rxM153, rx_q_vcall rxMlaw rxM153 0 11))), none, none, some (.inl (fun _ => rx_q_loadA 2 1)), some (.inr (.inr (154, rxM154, rx_q_vcall rxMlaw rxM154 0 12))), none, none, some (.inl (fun _ => rx_q_icmp .eq 1826 898))]
noncomputable def rxE176_56 : List (Option rx_Ent) := [none, none, none, none, some (.inl (fun _ => rx_q_loadA 1 1)), some (.inl (fun _ => rx_q_loadA 0 1)), some (.inl (fun _ => rx_q_load 0 3 1)), some (.inl (fun _ => rx_h_push (rx_n 1) 1)), some (.inl (fun _ => rx_h_bin 0)), some (.inl (fun _ => rx_q_sld)), some (.inl (fun _ => rx_q_loadA 0 1)), some (.inl (fun _ => rx_q_load 0 3 1)), some (.inl (fun _ => rx_h_push (rx_n 2) 1)), some (.inl (fun _ => rx_h_bin 0)), some (.inl (fun _ => rx_q_sld)), some (.inr (.inr (155, rxM155, rx_q_vcall rxMlaw rxM155 2 11)))]
noncomputable def rxE176_57 : List (Option rx_Ent) := [none, none, some (.inl (fun _ => rx_q_loadA 2 1)), some (.inl (fun _ => rx_q_loadA 0 1)), some (.inl (fun _ => rx_q_load 0 3 1)), some (.inl (fun _ => rx_h_push (rx_n 1) 1)), some (.inl (fun _ => rx_h_bin 0)), some (.inl (fun _ => rx_q_sld)), some (.inl (fun _ => rx_q_loadA 0 1)), some (.inl (fun _ => rx_q_load 0 3 1)), some (.inl (fun _ => rx_h_push (rx_n 2) 1)), some (.inl (fun _ => rx_h_bin 0)), some (.inl (fun _ => rx_q_sld)), some (.inr (.inr (60, rxM60, rx_q_vcall rxMlaw rxM60 2 12)))]
noncomputable def rxE176_58 : List (Option rx_Ent) := [some (.inl (fun _ => rx_q_icmp .eq 1826 931)), none, none, none, none, some (.inl (fun _ => rx_q_loadA 1 1)), some (.inl (fun _ => rx_q_loadA 0 1)), some (.inl (fun _ => rx_q_load 0 3 1)), some (.inl (fun _ => rx_h_push (rx_n 1) 1)), some (.inl (fun _ => rx_h_bin 0)), some (.inl (fun _ => rx_q_sld)), some (.inl (fun _ => rx_q_loadA 0 1)), some (.inl (fun _ => rx_q_load 0 3 1)), some (.inl (fun _ => rx_h_push (rx_n 2) 1)), some (.inl (fun _ => rx_h_bin 0)), some (.inl (fun _ => rx_q_sld))]
noncomputable def rxE176_59 : List (Option rx_Ent) := [some (.inl (fun _ => rx_q_loadA 0 1)), some (.inl (fun _ => rx_q_load 0 3 1)), some (.inl (fun _ => rx_h_push (rx_n 3) 1)), some (.inl (fun _ => rx_h_bin 0)), some (.inl (fun _ => rx_q_sld)), some (.inr (.inr (61, rxM61, rx_q_vcall rxMlaw rxM61 3 11))), none, none, some (.inl (fun _ => rx_q_loadA 2 1)), some (.inl (fun _ => rx_q_loadA 0 1)), some (.inl (fun _ => rx_q_load 0 3 1)), some (.inl (fun _ => rx_h_push (rx_n 1) 1)), some (.inl (fun _ => rx_h_bin 0)), some (.inl (fun _ => rx_q_sld)), some (.inl (fun _ => rx_q_loadA 0 1)), some (.inl (fun _ => rx_q_load 0 3 1))]
noncomputable def rxE176_60 : List (Option rx_Ent) := [some (.inl (fun _ => rx_h_push (rx_n 2) 1)), some (.inl (fun _ => rx_h_bin 0)), some (.inl (fun _ => rx_q_sld)), some (.inl (fun _ => rx_q_loadA 0 1)), some (.inl (fun _ => rx_q_load 0 3 1)), some (.inl (fun _ => rx_h_push (rx_n 3) 1)), some (.inl (fun _ => rx_h_bin 0)), some (.inl (fun _ => rx_q_sld)), some (.inr (.inr (62, rxM62, rx_q_vcall rxMlaw rxM62 3 12))), none, none, some (.inl (fun _ => rx_q_icmp .eq 1826 974))]
noncomputable def rxE176_61 : List (Option rx_Ent) := [some (.inl (fun _ => rx_q_loadA 1 1)), some (.inr (.inr (63, rxM63, rx_q_vcall rxMlaw rxM63 0 11))), none, none, some (.inl (fun _ => rx_q_loadA 2 1)), some (.inr (.inr (64, rxM64, rx_q_vcall rxMlaw rxM64 0 12))), none, none, some (.inl (fun _ => rx_q_icmp .eq 1826 987)), none, none, none, none, some (.inl (fun _ => rx_q_loadA 1 1)), some (.inl (fun _ => rx_q_loadA 0 1)), some (.inl (fun _ => rx_q_load 0 3 1))]
noncomputable def rxE176_62 : List (Option rx_Ent) := [some (.inl (fun _ => rx_h_push (rx_n 1) 1)), some (.inl (fun _ => rx_h_bin 0)), some (.inl (fun _ => rx_q_sld)), some (.inl (fun _ => rx_q_loadA 0 1)), some (.inl (fun _ => rx_q_load 0 3 1)), some (.inl (fun _ => rx_h_push (rx_n 2) 1)), some (.inl (fun _ => rx_h_bin 0)), some (.inl (fun _ => rx_q_sld)), some (.inr (.inr (65, rxM65, rx_q_vcall rxMlaw rxM65 2 11))), none, none, some (.inl (fun _ => rx_q_loadA 2 1)), some (.inl (fun _ => rx_q_loadA 0 1)), some (.inl (fun _ => rx_q_load 0 3 1)), some (.inl (fun _ => rx_h_push (rx_n 1) 1)), some (.inl (fun _ => rx_h_bin 0))]
noncomputable def rxE176_63 : List (Option rx_Ent) := [some (.inl (fun _ => rx_q_sld)), some (.inl (fun _ => rx_q_loadA 0 1)), some (.inl (fun _ => rx_q_load 0 3 1)), some (.inl (fun _ => rx_h_push (rx_n 2) 1)), some (.inl (fun _ => rx_h_bin 0)), some (.inl (fun _ => rx_q_sld)), some (.inr (.inr (66, rxM66, rx_q_vcall rxMlaw rxM66 2 12))), none, none, some (.inl (fun _ => rx_q_icmp .eq 1826 1020)), none, none, none, none, some (.inl (fun _ => rx_q_loadA 1 1)), some (.inl (fun _ => rx_q_loadA 0 1))]
noncomputable def rxE176_64 : List (Option rx_Ent) := [some (.inl (fun _ => rx_q_load 0 3 1)), some (.inl (fun _ => rx_h_push (rx_n 1) 1)), some (.inl (fun _ => rx_h_bin 0)), some (.inl (fun _ => rx_q_sld)), some (.inl (fun _ => rx_q_loadA 0 1)), some (.inl (fun _ => rx_q_load 0 3 1)), some (.inl (fun _ => rx_h_push (rx_n 2) 1)), some (.inl (fun _ => rx_h_bin 0)), some (.inl (fun _ => rx_q_sld)), some (.inl (fun _ => rx_q_loadA 0 1)), some (.inl (fun _ => rx_q_load 0 3 1)), some (.inl (fun _ => rx_h_push (rx_n 3) 1)), some (.inl (fun _ => rx_h_bin 0)), some (.inl (fun _ => rx_q_sld)), some (.inl (fun _ => rx_q_loadA 0 1)), some (.inl (fun _ => rx_q_load 0 3 1))]
noncomputable def rxE176_65 : List (Option rx_Ent) := [some (.inl (fun _ => rx_h_push (rx_n 4) 1)), some (.inl (fun _ => rx_h_bin 0)), some (.inl (fun _ => rx_q_sld)), some (.inr (.inr (67, rxM67, rx_q_vcall rxMlaw rxM67 4 11))), none, none, some (.inl (fun _ => rx_q_loadA 2 1)), some (.inl (fun _ => rx_q_loadA 0 1)), some (.inl (fun _ => rx_q_load 0 3 1)), some (.inl (fun _ => rx_h_push (rx_n 1) 1)), some (.inl (fun _ => rx_h_bin 0)), some (.inl (fun _ => rx_q_sld)), some (.inl (fun _ => rx_q_loadA 0 1)), some (.inl (fun _ => rx_q_load 0 3 1)), some (.inl (fun _ => rx_h_push (rx_n 2) 1)), some (.inl (fun _ => rx_h_bin 0))]
noncomputable def rxE176_66 : List (Option rx_Ent) := [some (.inl (fun _ => rx_q_sld)), some (.inl (fun _ => rx_q_loadA 0 1)), some (.inl (fun _ => rx_q_load 0 3 1)), some (.inl (fun _ => rx_h_push (rx_n 3) 1)), some (.inl (fun _ => rx_h_bin 0)), some (.inl (fun _ => rx_q_sld)), some (.inl (fun _ => rx_q_loadA 0 1)), some (.inl (fun _ => rx_q_load 0 3 1)), some (.inl (fun _ => rx_h_push (rx_n 4) 1)), some (.inl (fun _ => rx_h_bin 0)), some (.inl (fun _ => rx_q_sld)), some (.inr (.inr (68, rxM68, rx_q_vcall rxMlaw rxM68 4 12))), none, none, some (.inl (fun _ => rx_q_icmp .eq 1826 1073))]
noncomputable def rxE176_67 : List (Option rx_Ent) := [none, none, none, some (.inl (fun _ => rx_q_loadA 1 1)), some (.inl (fun _ => rx_q_loadA 0 1)), some (.inl (fun _ => rx_q_load 0 3 1)), some (.inl (fun _ => rx_h_push (rx_n 1) 1)), some (.inl (fun _ => rx_h_bin 0)), some (.inl (fun _ => rx_q_sld)), some (.inl (fun _ => rx_q_loadA 0 1)), some (.inl (fun _ => rx_q_load 0 3 1)), some (.inl (fun _ => rx_h_push (rx_n 2) 1)), some (.inl (fun _ => rx_h_bin 0)), some (.inl (fun _ => rx_q_sld)), some (.inr (.inr (69, rxM69, rx_q_vcall rxMlaw rxM69 2 11)))]
noncomputable def rxE176_68 : List (Option rx_Ent) := [none, some (.inl (fun _ => rx_q_loadA 2 1)), some (.inl (fun _ => rx_q_loadA 0 1)), some (.inl (fun _ => rx_q_load 0 3 1)), some (.inl (fun _ => rx_h_push (rx_n 1) 1)), some (.inl (fun _ => rx_h_bin 0)), some (.inl (fun _ => rx_q_sld)), some (.inl (fun _ => rx_q_loadA 0 1)), some (.inl (fun _ => rx_q_load 0 3 1)), some (.inl (fun _ => rx_h_push (rx_n 2) 1)), some (.inl (fun _ => rx_h_bin 0)), some (.inl (fun _ => rx_q_sld)), some (.inr (.inr (70, rxM70, rx_q_vcall rxMlaw rxM70 2 12))), none, none, some (.inl (fun _ => rx_q_icmp .eq 1826 1106))]
noncomputable def rxE176_69 : List (Option rx_Ent) := [none, none, none, none, some (.inl (fun _ => rx_q_loadA 1 1)), some (.inl (fun _ => rx_q_loadA 0 1)), some (.inl (fun _ => rx_q_load 0 3 1)), some (.inl (fun _ => rx_h_push (rx_n 1) 1)), some (.inl (fun _ => rx_h_bin 0)), some (.inl (fun _ => rx_q_sld)), some (.inr (.inr (71, rxM71, rx_q_vcall rxMlaw rxM71 1 11))), none, none, some (.inl (fun _ => rx_q_loadA 2 1)), some (.inl (fun _ => rx_q_loadA 0 1)), some (.inl (fun _ => rx_q_load 0 3 1))]
noncomputable def rxE176_70 : List (Option rx_Ent) := [some (.inl (fun _ => rx_h_push (rx_n 1) 1)), some (.inl (fun _ => rx_h_bin 0)), some (.inl (fun _ => rx_q_sld)), some (.inr (.inr (72, rxM72, rx_q_vcall rxMlaw rxM72 1 12))), none, none, some (.inl (fun _ => rx_q_icmp .eq 1826 1129)), none, none, none, none, some (.inl (fun _ => rx_q_loadA 1 1)), some (.inl (fun _ => rx_q_loadA 0 1)), some (.inl (fun _ => rx_q_load 0 3 1)), some (.inl (fun _ => rx_h_push (rx_n 1) 1)), some (.inl (fun _ => rx_h_bin 0))]
noncomputable def rxE176_71 : List (Option rx_Ent) := [some (.inl (fun _ => rx_q_sld)), some (.inl (fun _ => rx_q_loadA 0 1)), some (.inl (fun _ => rx_q_load 0 3 1)), some (.inl (fun _ => rx_h_push (rx_n 2) 1)), some (.inl (fun _ => rx_h_bin 0)), some (.inl (fun _ => rx_q_sld)), some (.inl (fun _ => rx_q_loadA 0 1)), some (.inl (fun _ => rx_q_load 0 3 1)), some (.inl (fun _ => rx_h_push (rx_n 3) 1)), some (.inl (fun _ => rx_h_bin 0)), some (.inl (fun _ => rx_q_sld)), some (.inr (.inr (73, rxM73, rx_q_vcall rxMlaw rxM73 3 11))), none, none, some (.inl (fun _ => rx_q_loadA 2 1)), some (.inl (fun _ => rx_q_loadA 0 1))]
noncomputable def rxE176_72 : List (Option rx_Ent) := [some (.inl (fun _ => rx_q_load 0 3 1)), some (.inl (fun _ => rx_h_push (rx_n 1) 1)), some (.inl (fun _ => rx_h_bin 0)), some (.inl (fun _ => rx_q_sld)), some (.inl (fun _ => rx_q_loadA 0 1)), some (.inl (fun _ => rx_q_load 0 3 1)), some (.inl (fun _ => rx_h_push (rx_n 2) 1)), some (.inl (fun _ => rx_h_bin 0)), some (.inl (fun _ => rx_q_sld)), some (.inl (fun _ => rx_q_loadA 0 1)), some (.inl (fun _ => rx_q_load 0 3 1)), some (.inl (fun _ => rx_h_push (rx_n 3) 1)), some (.inl (fun _ => rx_h_bin 0)), some (.inl (fun _ => rx_q_sld)), some (.inr (.inr (75, rxM75, rx_q_vcall rxMlaw rxM75 3 12)))]
noncomputable def rxE176_73 : List (Option rx_Ent) := [none, some (.inl (fun _ => rx_q_icmp .eq 1826 1172)), none, none, none, none, some (.inl (fun _ => rx_q_loadA 1 1)), some (.inl (fun _ => rx_q_loadA 0 1)), some (.inl (fun _ => rx_q_load 0 3 1)), some (.inl (fun _ => rx_h_push (rx_n 1) 1)), some (.inl (fun _ => rx_h_bin 0)), some (.inl (fun _ => rx_q_sld)), some (.inl (fun _ => rx_q_loadA 0 1)), some (.inl (fun _ => rx_q_load 0 3 1)), some (.inl (fun _ => rx_h_push (rx_n 2) 1)), some (.inl (fun _ => rx_h_bin 0))]
noncomputable def rxE176_74 : List (Option rx_Ent) := [some (.inl (fun _ => rx_q_sld)), some (.inr (.inr (76, rxM76, rx_q_vcall rxMlaw rxM76 2 11))), none, none, some (.inl (fun _ => rx_q_loadA 2 1)), some (.inl (fun _ => rx_q_loadA 0 1)), some (.inl (fun _ => rx_q_load 0 3 1)), some (.inl (fun _ => rx_h_push (rx_n 1) 1)), some (.inl (fun _ => rx_h_bin 0)), some (.inl (fun _ => rx_q_sld)), some (.inl (fun _ => rx_q_loadA 0 1)), some (.inl (fun _ => rx_q_load 0 3 1)), some (.inl (fun _ => rx_h_push (rx_n 2) 1)), some (.inl (fun _ => rx_h_bin 0)), some (.inl (fun _ => rx_q_sld)), some (.inr (.inr (77, rxM77, rx_q_vcall rxMlaw rxM77 2 12)))]
noncomputable def rxE176_75 : List (Option rx_Ent) := [none, none, some (.inl (fun _ => rx_q_icmp .eq 1826 1205)), none, none, none, none, some (.inl (fun _ => rx_q_loadA 1 1)), some (.inl (fun _ => rx_q_loadA 0 1)), some (.inl (fun _ => rx_q_load 0 3 1)), some (.inl (fun _ => rx_h_push (rx_n 1) 1)), some (.inl (fun _ => rx_h_bin 0)), some (.inl (fun _ => rx_q_sld)), some (.inl (fun _ => rx_q_loadA 0 1)), some (.inl (fun _ => rx_q_load 0 3 1)), some (.inl (fun _ => rx_h_push (rx_n 2) 1))]
noncomputable def rxE176_76 : List (Option rx_Ent) := [some (.inl (fun _ => rx_h_bin 0)), some (.inl (fun _ => rx_q_sld)), some (.inl (fun _ => rx_q_loadA 0 1)), some (.inl (fun _ => rx_q_load 0 3 1)), some (.inl (fun _ => rx_h_push (rx_n 3) 1)), some (.inl (fun _ => rx_h_bin 0)), some (.inl (fun _ => rx_q_sld)), some (.inl (fun _ => rx_q_loadA 0 1)), some (.inl (fun _ => rx_q_load 0 3 1)), some (.inl (fun _ => rx_h_push (rx_n 4) 1)), some (.inl (fun _ => rx_h_bin 0)), some (.inl (fun _ => rx_q_sld)), some (.inr (.inr (78, rxM78, rx_q_vcall rxMlaw rxM78 4 11))), none, none, some (.inl (fun _ => rx_q_loadA 2 1))]
noncomputable def rxE176_77 : List (Option rx_Ent) := [some (.inl (fun _ => rx_q_loadA 0 1)), some (.inl (fun _ => rx_q_load 0 3 1)), some (.inl (fun _ => rx_h_push (rx_n 1) 1)), some (.inl (fun _ => rx_h_bin 0)), some (.inl (fun _ => rx_q_sld)), some (.inl (fun _ => rx_q_loadA 0 1)), some (.inl (fun _ => rx_q_load 0 3 1)), some (.inl (fun _ => rx_h_push (rx_n 2) 1)), some (.inl (fun _ => rx_h_bin 0)), some (.inl (fun _ => rx_q_sld)), some (.inl (fun _ => rx_q_loadA 0 1)), some (.inl (fun _ => rx_q_load 0 3 1)), some (.inl (fun _ => rx_h_push (rx_n 3) 1)), some (.inl (fun _ => rx_h_bin 0)), some (.inl (fun _ => rx_q_sld)), some (.inl (fun _ => rx_q_loadA 0 1))]
noncomputable def rxE176_78 : List (Option rx_Ent) := [some (.inl (fun _ => rx_q_load 0 3 1)), some (.inl (fun _ => rx_h_push (rx_n 4) 1)), some (.inl (fun _ => rx_h_bin 0)), some (.inl (fun _ => rx_q_sld)), some (.inr (.inr (79, rxM79, rx_q_vcall rxMlaw rxM79 4 12))), none, none, some (.inl (fun _ => rx_q_icmp .eq 1826 1258)), none, none, none, none, some (.inl (fun _ => rx_q_loadA 1 1)), some (.inl (fun _ => rx_q_loadA 0 1)), some (.inl (fun _ => rx_q_load 0 3 1)), some (.inl (fun _ => rx_h_push (rx_n 1) 1))]
noncomputable def rxE176_79 : List (Option rx_Ent) := [some (.inl (fun _ => rx_h_bin 0)), some (.inl (fun _ => rx_q_sld)), some (.inl (fun _ => rx_q_loadA 0 1)), some (.inl (fun _ => rx_q_load 0 3 1)), some (.inl (fun _ => rx_h_push (rx_n 2) 1)), some (.inl (fun _ => rx_h_bin 0)), some (.inl (fun _ => rx_q_sld)), some (.inl (fun _ => rx_q_loadA 0 1)), some (.inl (fun _ => rx_q_load 0 3 1)), some (.inl (fun _ => rx_h_push (rx_n 3) 1)), some (.inl (fun _ => rx_h_bin 0)), some (.inl (fun _ => rx_q_sld)), some (.inl (fun _ => rx_q_loadA 0 1)), some (.inl (fun _ => rx_q_load 0 3 1)), some (.inl (fun _ => rx_h_push (rx_n 4) 1)), some (.inl (fun _ => rx_h_bin 0))]
noncomputable def rxE176_80 : List (Option rx_Ent) := [some (.inl (fun _ => rx_q_sld)), some (.inr (.inr (80, rxM80, rx_q_vcall rxMlaw rxM80 4 11))), none, none, some (.inl (fun _ => rx_q_loadA 2 1)), some (.inl (fun _ => rx_q_loadA 0 1)), some (.inl (fun _ => rx_q_load 0 3 1)), some (.inl (fun _ => rx_h_push (rx_n 1) 1)), some (.inl (fun _ => rx_h_bin 0)), some (.inl (fun _ => rx_q_sld)), some (.inl (fun _ => rx_q_loadA 0 1)), some (.inl (fun _ => rx_q_load 0 3 1)), some (.inl (fun _ => rx_h_push (rx_n 2) 1)), some (.inl (fun _ => rx_h_bin 0)), some (.inl (fun _ => rx_q_sld)), some (.inl (fun _ => rx_q_loadA 0 1))]
noncomputable def rxE176_81 : List (Option rx_Ent) := [some (.inl (fun _ => rx_q_load 0 3 1)), some (.inl (fun _ => rx_h_push (rx_n 3) 1)), some (.inl (fun _ => rx_h_bin 0)), some (.inl (fun _ => rx_q_sld)), some (.inl (fun _ => rx_q_loadA 0 1)), some (.inl (fun _ => rx_q_load 0 3 1)), some (.inl (fun _ => rx_h_push (rx_n 4) 1)), some (.inl (fun _ => rx_h_bin 0)), some (.inl (fun _ => rx_q_sld)), some (.inr (.inr (81, rxM81, rx_q_vcall rxMlaw rxM81 4 12))), none, none, some (.inl (fun _ => rx_q_icmp .eq 1826 1311))]
noncomputable def rxE176_82 : List (Option rx_Ent) := [none, some (.inl (fun _ => rx_q_loadA 1 1)), some (.inl (fun _ => rx_q_loadA 0 1)), some (.inl (fun _ => rx_q_load 0 3 1)), some (.inl (fun _ => rx_h_push (rx_n 1) 1)), some (.inl (fun _ => rx_h_bin 0)), some (.inl (fun _ => rx_q_sld)), some (.inl (fun _ => rx_q_loadA 0 1)), some (.inl (fun _ => rx_q_load 0 3 1)), some (.inl (fun _ => rx_h_push (rx_n 2) 1)), some (.inl (fun _ => rx_h_bin 0)), some (.inl (fun _ => rx_q_sld)), some (.inr (.inr (82, rxM82, rx_q_vcall rxMlaw rxM82 2 11))), none, none, some (.inl (fun _ => rx_q_loadA 2 1))]
noncomputable def rxE176_83 : List (Option rx_Ent) := [some (.inl (fun _ => rx_q_loadA 0 1)), some (.inl (fun _ => rx_q_load 0 3 1)), some (.inl (fun _ => rx_h_push (rx_n 1) 1)), some (.inl (fun _ => rx_h_bin 0)), some (.inl (fun _ => rx_q_sld)), some (.inl (fun _ => rx_q_loadA 0 1)), some (.inl (fun _ => rx_q_load 0 3 1)), some (.inl (fun _ => rx_h_push (rx_n 2) 1)), some (.inl (fun _ => rx_h_bin 0)), some (.inl (fun _ => rx_q_sld)), some (.inr (.inr (83, rxM83, rx_q_vcall rxMlaw rxM83 2 12))), none, none, some (.inl (fun _ => rx_q_icmp .eq 1826 1344))]
noncomputable def rxE176_84 : List (Option rx_Ent) := [none, none, some (.inl (fun _ => rx_q_loadA 1 1)), some (.inl (fun _ => rx_q_loadA 0 1)), some (.inl (fun _ => rx_q_load 0 3 1)), some (.inl (fun _ => rx_h_push (rx_n 1) 1)), some (.inl (fun _ => rx_h_bin 0)), some (.inl (fun _ => rx_q_sld)), some (.inl (fun _ => rx_q_loadA 0 1)), some (.inl (fun _ => rx_q_load 0 3 1)), some (.inl (fun _ => rx_h_push (rx_n 2) 1)), some (.inl (fun _ => rx_h_bin 0)), some (.inl (fun _ => rx_q_sld)), some (.inr (.inr (84, rxM84, rx_q_vcall rxMlaw rxM84 2 11)))]
noncomputable def rxE176_85 : List (Option rx_Ent) := [some (.inl (fun _ => rx_q_loadA 2 1)), some (.inl (fun _ => rx_q_loadA 0 1)), some (.inl (fun _ => rx_q_load 0 3 1)), some (.inl (fun _ => rx_h_push (rx_n 1) 1)), some (.inl (fun _ => rx_h_bin 0)), some (.inl (fun _ => rx_q_sld)), some (.inl (fun _ => rx_q_loadA 0 1)), some (.inl (fun _ => rx_q_load 0 3 1)), some (.inl (fun _ => rx_h_push (rx_n 2) 1)), some (.inl (fun _ => rx_h_bin 0)), some (.inl (fun _ => rx_q_sld)), some (.inr (.inr (85, rxM85, rx_q_vcall rxMlaw rxM85 2 12))), none, none, some (.inl (fun _ => rx_q_lcmp .eq 1826 1378))]
noncomputable def rxE176_86 : List (Option rx_Ent) := [none, none, none, none, some (.inl (fun _ => rx_q_loadA 1 1)), some (.inl (fun _ => rx_q_loadA 0 1)), some (.inl (fun _ => rx_q_load 0 3 1)), some (.inl (fun _ => rx_h_push (rx_n 1) 1)), some (.inl (fun _ => rx_h_bin 0)), some (.inl (fun _ => rx_q_sld)), some (.inl (fun _ => rx_q_loadA 0 1)), some (.inl (fun _ => rx_q_load 0 3 1)), some (.inl (fun _ => rx_h_push (rx_n 2) 1)), some (.inl (fun _ => rx_h_bin 0)), some (.inl (fun _ => rx_q_sld)), some (.inl (fun _ => rx_q_loadA 0 1))]
noncomputable def rxE176_87 : List (Option rx_Ent) := [some (.inl (fun _ => rx_q_load 0 3 1)), some (.inl (fun _ => rx_h_push (rx_n 3) 1)), some (.inl (fun _ => rx_h_bin 0)), some (.inl (fun _ => rx_q_sld)), some (.inr (.inr (86, rxM86, rx_q_vcall rxMlaw rxM86 3 11))), none, none, some (.inl (fun _ => rx_q_loadA 2 1)), some (.inl (fun _ => rx_q_loadA 0 1)), some (.inl (fun _ => rx_q_load 0 3 1)), some (.inl (fun _ => rx_h_push (rx_n 1) 1)), some (.inl (fun _ => rx_h_bin 0)), some (.inl (fun _ => rx_q_sld)), some (.inl (fun _ => rx_q_loadA 0 1)), some (.inl (fun _ => rx_q_load 0 3 1)), some (.inl (fun _ => rx_h_push (rx_n 2) 1))]
noncomputable def rxE176_88 : List (Option rx_Ent) := [some (.inl (fun _ => rx_h_bin 0)), some (.inl (fun _ => rx_q_sld)), some (.inl (fun _ => rx_q_loadA 0 1)), some (.inl (fun _ => rx_q_load 0 3 1)), some (.inl (fun _ => rx_h_push (rx_n 3) 1)), some (.inl (fun _ => rx_h_bin 0)), some (.inl (fun _ => rx_q_sld)), some (.inr (.inr (87, rxM87, rx_q_vcall rxMlaw rxM87 3 12))), none, none, some (.inl (fun _ => rx_q_icmp .eq 1826 1421)), none, none, none, none, some (.inl (fun _ => rx_q_loadA 1 1))]
noncomputable def rxE176_89 : List (Option rx_Ent) := [some (.inl (fun _ => rx_q_loadA 0 1)), some (.inl (fun _ => rx_q_load 0 3 1)), some (.inl (fun _ => rx_h_push (rx_n 1) 1)), some (.inl (fun _ => rx_h_bin 0)), some (.inl (fun _ => rx_q_sld)), some (.inl (fun _ => rx_q_loadA 0 1)), some (.inl (fun _ => rx_q_load 0 3 1)), some (.inl (fun _ => rx_h_push (rx_n 2) 1)), some (.inl (fun _ => rx_h_bin 0)), some (.inl (fun _ => rx_q_sld)), some (.inr (.inr (88, rxM88, rx_q_vcall rxMlaw rxM88 2 11))), none, none, some (.inl (fun _ => rx_q_loadA 2 1)), some (.inl (fun _ => rx_q_loadA 0 1)), some (.inl (fun _ => rx_q_load 0 3 1))]
noncomputable def rxE176_90 : List (Option rx_Ent) := [some (.inl (fun _ => rx_h_push (rx_n 1) 1)), some (.inl (fun _ => rx_h_bin 0)), some (.inl (fun _ => rx_q_sld)), some (.inl (fun _ => rx_q_loadA 0 1)), some (.inl (fun _ => rx_q_load 0 3 1)), some (.inl (fun _ => rx_h_push (rx_n 2) 1)), some (.inl (fun _ => rx_h_bin 0)), some (.inl (fun _ => rx_q_sld)), some (.inr (.inr (89, rxM89, rx_q_vcall rxMlaw rxM89 2 12))), none, none, some (.inl (fun _ => rx_q_lcmp .eq 1826 1455))]
noncomputable def rxE176_91 : List (Option rx_Ent) := [none, some (.inl (fun _ => rx_q_loadA 1 1)), some (.inl (fun _ => rx_q_loadA 0 1)), some (.inl (fun _ => rx_q_load 0 3 1)), some (.inl (fun _ => rx_h_push (rx_n 1) 1)), some (.inl (fun _ => rx_h_bin 0)), some (.inl (fun _ => rx_q_sld)), some (.inl (fun _ => rx_q_loadA 0 1)), some (.inl (fun _ => rx_q_load 0 3 1)), some (.inl (fun _ => rx_h_push (rx_n 2) 1)), some (.inl (fun _ => rx_h_bin 0)), some (.inl (fun _ => rx_q_sld)), some (.inl (fun _ => rx_q_loadA 0 1)), some (.inl (fun _ => rx_q_load 0 3 1)), some (.inl (fun _ => rx_h_push (rx_n 3) 1)), some (.inl (fun _ => rx_h_bin 0))]
noncomputable def rxE176_92 : List (Option rx_Ent) := [some (.inl (fun _ => rx_q_sld)), some (.inr (.inr (90, rxM90, rx_q_vcall rxMlaw rxM90 3 11))), none, none, some (.inl (fun _ => rx_q_loadA 2 1)), some (.inl (fun _ => rx_q_loadA 0 1)), some (.inl (fun _ => rx_q_load 0 3 1)), some (.inl (fun _ => rx_h_push (rx_n 1) 1)), some (.inl (fun _ => rx_h_bin 0)), some (.inl (fun _ => rx_q_sld)), some (.inl (fun _ => rx_q_loadA 0 1)), some (.inl (fun _ => rx_q_load 0 3 1)), some (.inl (fun _ => rx_h_push (rx_n 2) 1)), some (.inl (fun _ => rx_h_bin 0)), some (.inl (fun _ => rx_q_sld)), some (.inl (fun _ => rx_q_loadA 0 1))]
noncomputable def rxE176_93 : List (Option rx_Ent) := [some (.inl (fun _ => rx_q_load 0 3 1)), some (.inl (fun _ => rx_h_push (rx_n 3) 1)), some (.inl (fun _ => rx_h_bin 0)), some (.inl (fun _ => rx_q_sld)), some (.inr (.inr (91, rxM91, rx_q_vcall rxMlaw rxM91 3 12))), none, none, some (.inl (fun _ => rx_q_icmp .eq 1826 1498)), none, none, none, none, some (.inl (fun _ => rx_q_loadA 1 1)), some (.inl (fun _ => rx_q_loadA 0 1)), some (.inl (fun _ => rx_q_load 0 3 1)), some (.inl (fun _ => rx_h_push (rx_n 1) 1))]
noncomputable def rxE176_94 : List (Option rx_Ent) := [some (.inl (fun _ => rx_h_bin 0)), some (.inl (fun _ => rx_q_sld)), some (.inr (.inr (92, rxM92, rx_q_vcall rxMlaw rxM92 1 11))), none, none, some (.inl (fun _ => rx_q_loadA 2 1)), some (.inl (fun _ => rx_q_loadA 0 1)), some (.inl (fun _ => rx_q_load 0 3 1)), some (.inl (fun _ => rx_h_push (rx_n 1) 1)), some (.inl (fun _ => rx_h_bin 0)), some (.inl (fun _ => rx_q_sld)), some (.inr (.inr (93, rxM93, rx_q_vcall rxMlaw rxM93 1 12))), none, none, some (.inl (fun _ => rx_q_icmp .eq 1826 1521))]
noncomputable def rxE176_95 : List (Option rx_Ent) := [none, none, none, some (.inl (fun _ => rx_q_loadA 1 1)), some (.inl (fun _ => rx_q_loadA 0 1)), some (.inl (fun _ => rx_q_load 0 3 1)), some (.inl (fun _ => rx_h_push (rx_n 1) 1)), some (.inl (fun _ => rx_h_bin 0)), some (.inl (fun _ => rx_q_sld)), some (.inl (fun _ => rx_q_loadA 0 1)), some (.inl (fun _ => rx_q_load 0 3 1)), some (.inl (fun _ => rx_h_push (rx_n 2) 1)), some (.inl (fun _ => rx_h_bin 0)), some (.inl (fun _ => rx_q_sld)), some (.inl (fun _ => rx_q_loadA 0 1)), some (.inl (fun _ => rx_q_load 0 3 1))]
noncomputable def rxE176_96 : List (Option rx_Ent) := [some (.inl (fun _ => rx_h_push (rx_n 3) 1)), some (.inl (fun _ => rx_h_bin 0)), some (.inl (fun _ => rx_q_sld)), some (.inr (.inr (94, rxM94, rx_q_vcall rxMlaw rxM94 3 11))), none, none, some (.inl (fun _ => rx_q_loadA 2 1)), some (.inl (fun _ => rx_q_loadA 0 1)), some (.inl (fun _ => rx_q_load 0 3 1)), some (.inl (fun _ => rx_h_push (rx_n 1) 1)), some (.inl (fun _ => rx_h_bin 0)), some (.inl (fun _ => rx_q_sld)), some (.inl (fun _ => rx_q_loadA 0 1)), some (.inl (fun _ => rx_q_load 0 3 1)), some (.inl (fun _ => rx_h_push (rx_n 2) 1)), some (.inl (fun _ => rx_h_bin 0))]
noncomputable def rxE176_97 : List (Option rx_Ent) := [some (.inl (fun _ => rx_q_sld)), some (.inl (fun _ => rx_q_loadA 0 1)), some (.inl (fun _ => rx_q_load 0 3 1)), some (.inl (fun _ => rx_h_push (rx_n 3) 1)), some (.inl (fun _ => rx_h_bin 0)), some (.inl (fun _ => rx_q_sld)), some (.inr (.inr (96, rxM96, rx_q_vcall rxMlaw rxM96 3 12))), none, none, some (.inl (fun _ => rx_q_icmp .eq 1826 1564)), none, none, none, none, some (.inl (fun _ => rx_q_loadA 1 1)), some (.inr (.inr (97, rxM97, rx_q_vcall rxMlaw rxM97 0 11)))]
noncomputable def rxE176_98 : List (Option rx_Ent) := [none, none, some (.inl (fun _ => rx_q_loadA 2 1)), some (.inr (.inr (98, rxM98, rx_q_vcall rxMlaw rxM98 0 12))), none, none, some (.inl (fun _ => rx_q_icmp .eq 1826 1577)), none, none, none, none, some (.inl (fun _ => rx_q_loadA 1 1)), some (.inl (fun _ => rx_q_loadA 0 1)), some (.inl (fun _ => rx_q_load 0 3 1)), some (.inl (fun _ => rx_h_push (rx_n 1) 1)), some (.inl (fun _ => rx_h_bin 0))]
noncomputable def rxE176_99 : List (Option rx_Ent) := [some (.inl (fun _ => rx_q_sld)), some (.inr (.inr (99, rxM99, rx_q_vcall rxMlaw rxM99 1 11))), none, none, some (.inl (fun _ => rx_q_loadA 2 1)), some (.inl (fun _ => rx_q_loadA 0 1)), some (.inl (fun _ => rx_q_load 0 3 1)), some (.inl (fun _ => rx_h_push (rx_n 1) 1)), some (.inl (fun _ => rx_h_bin 0)), some (.inl (fun _ => rx_q_sld)), some (.inr (.inr (100, rxM100, rx_q_vcall rxMlaw rxM100 1 12))), none, none, some (.inl (fun _ => rx_q_icmp .eq 1826 1600))]
noncomputable def rxE176_100 : List (Option rx_Ent) := [none, none, some (.inl (fun _ => rx_q_loadA 1 1)), some (.inl (fun _ => rx_q_loadA 0 1)), some (.inl (fun _ => rx_q_load 0 3 1)), some (.inl (fun _ => rx_h_push (rx_n 1) 1)), some (.inl (fun _ => rx_h_bin 0)), some (.inl (fun _ => rx_q_sld)), some (.inr (.inr (102, rxM102, rx_q_vcall rxMlaw rxM102 1 11))), none, none, some (.inl (fun _ => rx_q_loadA 2 1)), some (.inl (fun _ => rx_q_loadA 0 1)), some (.inl (fun _ => rx_q_load 0 3 1)), some (.inl (fun _ => rx_h_push (rx_n 1) 1)), some (.inl (fun _ => rx_h_bin 0))]
noncomputable def rxE176_101 : List (Option rx_Ent) := [some (.inl (fun _ => rx_q_sld)), some (.inr (.inr (103, rxM103, rx_q_vcall rxMlaw rxM103 1 12))), none, none, some (.inl (fun _ => rx_q_icmp .eq 1826 1623)), none, none, none, none, some (.inl (fun _ => rx_q_loadA 1 1)), some (.inl (fun _ => rx_q_loadA 0 1)), some (.inl (fun _ => rx_q_load 0 3 1)), some (.inl (fun _ => rx_h_push (rx_n 1) 1)), some (.inl (fun _ => rx_h_bin 0)), some (.inl (fun _ => rx_q_sld)), some (.inl (fun _ => rx_q_loadA 0 1))]
noncomputable def rxE176_102 : List (Option rx_Ent) := [some (.inl (fun _ => rx_q_load 0 3 1)), some (.inl (fun _ => rx_h_push (rx_n 2) 1)), some (.inl (fun _ => rx_h_bin 0)), some (.inl (fun _ => rx_q_sld)), some (.inr (.inr (104, rxM104, rx_q_vcall rxMlaw rxM104 2 11))), none, none, some (.inl (fun _ => rx_q_loadA 2 1)), some (.inl (fun _ => rx_q_loadA 0 1)), some (.inl (fun _ => rx_q_load 0 3 1)), some (.inl (fun _ => rx_h_push (rx_n 1) 1)), some (.inl (fun _ => rx_h_bin 0)), some (.inl (fun _ => rx_q_sld)), some (.inl (fun _ => rx_q_loadA 0 1)), some (.inl (fun _ => rx_q_load 0 3 1)), some (.inl (fun _ => rx_h_push (rx_n 2) 1))]
noncomputable def rxE176_103 : List (Option rx_Ent) := [some (.inl (fun _ => rx_h_bin 0)), some (.inl (fun _ => rx_q_sld)), some (.inr (.inr (105, rxM105, rx_q_vcall rxMlaw rxM105 2 12))), none, none, some (.inl (fun _ => rx_q_icmp .eq 1826 1656)), none, none, none, none, some (.inl (fun _ => rx_q_loadA 1 1)), some (.inl (fun _ => rx_q_loadA 0 1)), some (.inl (fun _ => rx_q_load 0 3 1)), some (.inl (fun _ => rx_h_push (rx_n 1) 1)), some (.inl (fun _ => rx_h_bin 0)), some (.inl (fun _ => rx_q_sld))]
noncomputable def rxE176_104 : List (Option rx_Ent) := [some (.inl (fun _ => rx_q_loadA 0 1)), some (.inl (fun _ => rx_q_load 0 3 1)), some (.inl (fun _ => rx_h_push (rx_n 2) 1)), some (.inl (fun _ => rx_h_bin 0)), some (.inl (fun _ => rx_q_sld)), some (.inl (fun _ => rx_q_loadA 0 1)), some (.inl (fun _ => rx_q_load 0 3 1)), some (.inl (fun _ => rx_h_push (rx_n 3) 1)), some (.inl (fun _ => rx_h_bin 0)), some (.inl (fun _ => rx_q_sld)), some (.inr (.inr (106, rxM106, rx_q_vcall rxMlaw rxM106 3 11))), none, none, some (.inl (fun _ => rx_q_loadA 2 1)), some (.inl (fun _ => rx_q_loadA 0 1)), some (.inl (fun _ => rx_q_load 0 3 1))]
noncomputable def rxE176_105 : List (Option rx_Ent) := [some (.inl (fun _ => rx_h_push (rx_n 1) 1)), some (.inl (fun _ => rx_h_bin 0)), some (.inl (fun _ => rx_q_sld)), some (.inl (fun _ => rx_q_loadA 0 1)), some (.inl (fun _ => rx_q_load 0 3 1)), some (.inl (fun _ => rx_h_push (rx_n 2) 1)), some (.inl (fun _ => rx_h_bin 0)), some (.inl (fun _ => rx_q_sld)), some (.inl (fun _ => rx_q_loadA 0 1)), some (.inl (fun _ => rx_q_load 0 3 1)), some (.inl (fun _ => rx_h_push (rx_n 3) 1)), some (.inl (fun _ => rx_h_bin 0)), some (.inl (fun _ => rx_q_sld)), some (.inr (.inr (107, rxM107, rx_q_vcall rxMlaw rxM107 3 12)))]
noncomputable def rxE176_106 : List (Option rx_Ent) := [some (.inl (fun _ => rx_q_icmp .eq 1826 1699)), none, none, none, none, some (.inl (fun _ => rx_q_loadA 1 1)), some (.inl (fun _ => rx_q_loadA 0 1)), some (.inl (fun _ => rx_q_load 0 3 1)), some (.inl (fun _ => rx_h_push (rx_n 1) 1)), some (.inl (fun _ => rx_h_bin 0)), some (.inl (fun _ => rx_q_sld)), some (.inl (fun _ => rx_q_loadA 0 1)), some (.inl (fun _ => rx_q_load 0 3 1)), some (.inl (fun _ => rx_h_push (rx_n 2) 1)), some (.inl (fun _ => rx_h_bin 0)), some (.inl (fun _ => rx_q_sld))]
noncomputable def rxE176_107 : List (Option rx_Ent) := [some (.inl (fun _ => rx_q_loadA 0 1)), some (.inl (fun _ => rx_q_load 0 3 1)), some (.inl (fun _ => rx_h_push (rx_n 3) 1)), some (.inl (fun _ => rx_h_bin 0)), some (.inl (fun _ => rx_q_sld)), some (.inr (.inr (108, rxM108, rx_q_vcall rxMlaw rxM108 3 11))), none, none, some (.inl (fun _ => rx_q_loadA 2 1)), some (.inl (fun _ => rx_q_loadA 0 1)), some (.inl (fun _ => rx_q_load 0 3 1)), some (.inl (fun _ => rx_h_push (rx_n 1) 1)), some (.inl (fun _ => rx_h_bin 0)), some (.inl (fun _ => rx_q_sld)), some (.inl (fun _ => rx_q_loadA 0 1)), some (.inl (fun _ => rx_q_load 0 3 1))]
noncomputable def rxE176_108 : List (Option rx_Ent) := [some (.inl (fun _ => rx_h_push (rx_n 2) 1)), some (.inl (fun _ => rx_h_bin 0)), some (.inl (fun _ => rx_q_sld)), some (.inl (fun _ => rx_q_loadA 0 1)), some (.inl (fun _ => rx_q_load 0 3 1)), some (.inl (fun _ => rx_h_push (rx_n 3) 1)), some (.inl (fun _ => rx_h_bin 0)), some (.inl (fun _ => rx_q_sld)), some (.inr (.inr (109, rxM109, rx_q_vcall rxMlaw rxM109 3 12))), none, none, some (.inl (fun _ => rx_q_icmp .eq 1826 1742))]
noncomputable def rxE176_109 : List (Option rx_Ent) := [some (.inl (fun _ => rx_q_loadA 1 1)), some (.inl (fun _ => rx_q_loadA 0 1)), some (.inl (fun _ => rx_q_load 0 3 1)), some (.inl (fun _ => rx_h_push (rx_n 1) 1)), some (.inl (fun _ => rx_h_bin 0)), some (.inl (fun _ => rx_q_sld)), some (.inr (.inr (110, rxM110, rx_q_vcall rxMlaw rxM110 1 11))), none, none, some (.inl (fun _ => rx_q_loadA 2 1)), some (.inl (fun _ => rx_q_loadA 0 1)), some (.inl (fun _ => rx_q_load 0 3 1)), some (.inl (fun _ => rx_h_push (rx_n 1) 1)), some (.inl (fun _ => rx_h_bin 0)), some (.inl (fun _ => rx_q_sld)), some (.inr (.inr (111, rxM111, rx_q_vcall rxMlaw rxM111 1 12)))]
noncomputable def rxE176_110 : List (Option rx_Ent) := [none, none, some (.inl (fun _ => rx_q_icmp .eq 1826 1765)), none, none, none, none, some (.inl (fun _ => rx_q_loadA 1 1)), some (.inl (fun _ => rx_q_loadA 0 1)), some (.inl (fun _ => rx_q_load 0 3 1)), some (.inl (fun _ => rx_h_push (rx_n 1) 1)), some (.inl (fun _ => rx_h_bin 0)), some (.inl (fun _ => rx_q_sld)), some (.inr (.inr (112, rxM112, rx_q_vcall rxMlaw rxM112 1 11)))]
noncomputable def rxE176_111 : List (Option rx_Ent) := [some (.inl (fun _ => rx_q_loadA 2 1)), some (.inl (fun _ => rx_q_loadA 0 1)), some (.inl (fun _ => rx_q_load 0 3 1)), some (.inl (fun _ => rx_h_push (rx_n 1) 1)), some (.inl (fun _ => rx_h_bin 0)), some (.inl (fun _ => rx_q_sld)), some (.inr (.inr (113, rxM113, rx_q_vcall rxMlaw rxM113 1 12))), none, none, some (.inl (fun _ => rx_q_icmp .eq 1826 1788)), none, none, none, none, some (.inl (fun _ => rx_q_loadA 1 1)), some (.inl (fun _ => rx_q_loadA 0 1))]
noncomputable def rxE176_112 : List (Option rx_Ent) := [some (.inl (fun _ => rx_q_load 0 3 1)), some (.inl (fun _ => rx_h_push (rx_n 1) 1)), some (.inl (fun _ => rx_h_bin 0)), some (.inl (fun _ => rx_q_sld)), some (.inr (.inr (114, rxM114, rx_q_vcall rxMlaw rxM114 1 11))), none, none, some (.inl (fun _ => rx_q_loadA 2 1)), some (.inl (fun _ => rx_q_loadA 0 1)), some (.inl (fun _ => rx_q_load 0 3 1)), some (.inl (fun _ => rx_h_push (rx_n 1) 1)), some (.inl (fun _ => rx_h_bin 0)), some (.inl (fun _ => rx_q_sld)), some (.inr (.inr (115, rxM115, rx_q_vcall rxMlaw rxM115 1 12)))]
noncomputable def rxE176_113 : List (Option rx_Ent) := [some (.inl (fun _ => rx_q_icmp .eq 1826 1811)), none, none, none, none, some (.inl (fun _ => rx_q_loadA 1 1)), some (.inr (.inr (116, rxM116, rx_q_vcall rxMlaw rxM116 0 11))), none, none, some (.inl (fun _ => rx_q_loadA 2 1)), some (.inr (.inr (117, rxM117, rx_q_vcall rxMlaw rxM117 0 12))), none, none, some (.inl (fun _ => rx_q_icmp .eq 1826 1824))]
noncomputable def rxE176_114 : List (Option rx_Ent) := [none, none, some (.inl (fun _ => rx_h_iinc 4 3 6)), none, none, some (.inl (fun _ => rx_q_goto 18)), none, none, some (.inl (fun _ => rx_h_push (rx_n 1) 1)), some (.inr (.inl (rx_q_retz 600000 7302250)))]
noncomputable def rxE176 : List (List (Option rx_Ent)) := [rxE176_0, rxE176_1, rxE176_2, [], [], [], [], [], [], [], [], [], [], [], [], rxE176_15, rxE176_16, rxE176_17, rxE176_18, rxE176_19, rxE176_20, rxE176_21, rxE176_22, rxE176_23, rxE176_24, rxE176_25, rxE176_26, rxE176_27, rxE176_28, rxE176_29, rxE176_30, rxE176_31, rxE176_32, rxE176_33, rxE176_34, rxE176_35, rxE176_36, rxE176_37, rxE176_38, rxE176_39, rxE176_40, rxE176_41, rxE176_42, rxE176_43, rxE176_44, rxE176_45, rxE176_46, rxE176_47, rxE176_48, rxE176_49, rxE176_50, rxE176_51, rxE176_52, rxE176_53, rxE176_54, rxE176_55, rxE176_56, rxE176_57, rxE176_58, rxE176_59, rxE176_60, rxE176_61, rxE176_62, rxE176_63, rxE176_64, rxE176_65, rxE176_66, rxE176_67, rxE176_68, rxE176_69, rxE176_70, rxE176_71, rxE176_72, rxE176_73, rxE176_74, rxE176_75, rxE176_76, rxE176_77, rxE176_78, rxE176_79, rxE176_80, rxE176_81, rxE176_82, rxE176_83, rxE176_84, rxE176_85, rxE176_86, rxE176_87, rxE176_88, rxE176_89, rxE176_90, rxE176_91, rxE176_92, rxE176_93, rxE176_94, rxE176_95, rxE176_96, rxE176_97, rxE176_98, rxE176_99, rxE176_100, rxE176_101, rxE176_102, rxE176_103, rxE176_104, rxE176_105, rxE176_106, rxE176_107, rxE176_108, rxE176_109, rxE176_110, rxE176_111, rxE176_112, rxE176_113, rxE176_114]
noncomputable def rxEs0 : List (List (List (Option rx_Ent))) := [rxE0, rxE1, rxE2, rxE3, rxE4, rxE5, rxE6, rxE7, rxE8, rxE9, rxE10, rxE11, rxE12, rxE13, rxE14, rxE15]
noncomputable def rxEs1 : List (List (List (Option rx_Ent))) := [rxE16, rxE17, rxE18, rxE19, rxE20, rxE21, rxE22, rxE23, rxE24, rxE25, rxE26, rxE27, rxE28, rxE29, rxE30, rxE31]
noncomputable def rxEs2 : List (List (List (Option rx_Ent))) := [rxE32, rxE33, rxE34, rxE35, rxE36, rxE37, rxE38, rxE39, rxE40, rxE41, rxE42, rxE43, rxE44, rxE45, rxE46, rxE47]
noncomputable def rxEs3 : List (List (List (Option rx_Ent))) := [rxE48, rxE49, rxE50, rxE51, rxE52, rxE53, rxE54, rxE55, rxE56, rxE57, rxE58, rxE59, rxE60, rxE61, rxE62, rxE63]
noncomputable def rxEs4 : List (List (List (Option rx_Ent))) := [rxE64, rxE65, rxE66, rxE67, rxE68, rxE69, rxE70, rxE71, rxE72, rxE73, rxE74, rxE75, rxE76, rxE77, rxE78, rxE79]
noncomputable def rxEs5 : List (List (List (Option rx_Ent))) := [rxE80, rxE81, rxE82, rxE83, rxE84, rxE85, rxE86, rxE87, rxE88, rxE89, rxE90, rxE91, rxE92, rxE93, rxE94, rxE95]
noncomputable def rxEs6 : List (List (List (Option rx_Ent))) := [rxE96, rxE97, rxE98, rxE99, rxE100, rxE101, rxE102, rxE103, rxE104, rxE105, rxE106, rxE107, rxE108, rxE109, rxE110, rxE111]
noncomputable def rxEs7 : List (List (List (Option rx_Ent))) := [rxE112, rxE113, rxE114, rxE115, rxE116, rxE117, rxE118, rxE119, rxE120, rxE121, rxE122, rxE123, rxE124, rxE125, rxE126, rxE127]
noncomputable def rxEs8 : List (List (List (Option rx_Ent))) := [rxE128, rxE129, rxE130, rxE131, rxE132, rxE133, rxE134, rxE135, rxE136, rxE137, rxE138, rxE139, rxE140, rxE141, rxE142, rxE143]
noncomputable def rxEs9 : List (List (List (Option rx_Ent))) := [rxE144, rxE145, rxE146, rxE147, rxE148, rxE149, rxE150, rxE151, rxE152, rxE153, rxE154, rxE155, rxE156, rxE157, rxE158, rxE159]
noncomputable def rxEs10 : List (List (List (Option rx_Ent))) := [rxE160, rxE161, rxE162, rxE163, rxE164, rxE165, rxE166, rxE167, rxE168, rxE169, rxE170, rxE171, rxE172, rxE173, rxE174, rxE175]
noncomputable def rxEs11 : List (List (List (Option rx_Ent))) := [rxE176]
noncomputable def rxEs : List (List (List (List (Option rx_Ent)))) := [rxEs0, rxEs1, rxEs2, rxEs3, rxEs4, rxEs5, rxEs6, rxEs7, rxEs8, rxEs9, rxEs10, rxEs11]
def rx_nth {α : Type} : List α → Nat → Option α
  | [], _ => none
  | a :: l, n => match n with
    | 0 => some a
    | m + 1 => rx_nth l m
def rx_fd (t : List (List (List (List (Option rx_Ent))))) (j pc : Nat) : Option rx_Ent := match rx_nth t (Nat.div j 16) with
  | none => none
  | some t => match rx_nth t (Nat.mod j 16) with
    | none => none
    | some t => match rx_nth t (Nat.div pc 16) with
      | none => none
      | some t => match rx_nth t (Nat.mod pc 16) with
        | some (some e) => some e
        | _ => none
noncomputable def rxCT (j pc : Nat) : Option rx_Ent := rx_fd rxEs j pc
end
section
/-! AFTER BOTH CONSTRUCTORS: the cells, by program (the same runs, printed) -/
def rxI0 : rx_I := [(0, 0), (0, 6), (-2147483648, 2147483647), (-2147483648, 2147483647), (-2147483648, 2147483647), (-2147483648, 2147483647), (-2147483648, 2147483647), (-2147483648, 2147483647)]
def rxH : List rx_C := [.inl (11, [.inl (.inl (some 1)), .inl (.inl (some 137)), .inl (.inl (some 410)), .inl (.inl (some 411)), .inl (.inr (0, (0, 0))), .inl (.inl (some 412)), .inl (.inl (some 427)), .inl (.inr (0, (0, 0))), .inl (.inr (0, (0, 0))), .inl (.inl (some 437)), .inl (.inl (some 438)), .inl (.inl (some 443)), .inl (.inl (some 451)), .inl (.inl (some 459)), .inl (.inl (some 468)), .inl (.inl (some 475)), .inl (.inr (0, (0, 0))), .inl (.inl (some 476)), .inl (.inl (some 479)), .inl (.inr (0, (0, 0)))]),
  .inl (10, [.inl (.inr (0, (0, 0))), .inl (.inl (some 2)), .inl (.inl (some 3)), .inl (.inl (some 4)), .inl (.inl (some 5)), .inl (.inr (0, (0, 0))), .inl (.inl (some 9)), .inl (.inl (some 10)), .inl (.inl (some 11)), .inl (.inl (some 12)), .inl (.inr (0, (0, 0))), .inl (.inl (some 13)), .inl (.inl (some 14)), .inl (.inl (some 19)), .inl (.inr (0, (0, 0))), .inl (.inr (0, (0, (-1)))), .inl (.inl (some 20)), .inl (.inl (some 21)), .inl (.inl (some 22))]),
  .inr (0, 6, .inl (.inr (0, (0, 0))), []),
  .inr (0, 6, .inl (.inr (0, (0, 0))), []),
  .inr (14, 6, .inl (.inl none), [(5, .inl (some 38)), (4, .inl (some 35)), (3, .inl (some 32)), (2, .inl (some 29)), (1, .inl (some 26)), (0, .inl (some 23))]),
  .inl (5, [.inl (.inr (0, (0, 0))), .inl (.inl (some 6)), .inl (.inl (some 7)), .inl (.inl (some 8))]),
  .inr (0, 8, .inl (.inr (0, (0, 0))), []),
  .inr (0, 8, .inl (.inr (0, (0, 0))), []),
  .inr (0, 8, .inl (.inr (0, (0, 0))), []),
  .inr (0, 12, .inl (.inr (0, (0, 0))), []),
  .inr (0, 12, .inl (.inr (0, (0, 0))), []),
  .inr (0, 12, .inl (.inr (0, (0, 0))), []),
  .inr (14, 12, .inl (.inl none), [(11, .inl (some 74)), (10, .inl (some 71)), (9, .inl (some 68)), (8, .inl (some 65)), (7, .inl (some 62)), (6, .inl (some 59)), (5, .inl (some 56)), (4, .inl (some 53)), (3, .inl (some 50)), (2, .inl (some 47)), (1, .inl (some 44)), (0, .inl (some 41))]),
  .inr (0, 12, .inl (.inr (0, (0, 0))), []),
  .inl (2, [.inl (.inr (0, (0, 0))), .inl (.inl (some 15)), .inl (.inl (some 16)), .inl (.inl (some 17)), .inl (.inl (some 18))]),
  .inr (0, 12, .inl (.inr (0, (0, 0))), []),
  .inr (0, 12, .inl (.inr (0, (0, 0))), []),
  .inr (0, 12, .inl (.inr (0, (0, 0))), []),
  .inr (0, 4, .inl (.inr (0, (0, 0))), []),
  .inr (0, 3, .inl (.inr (0, (0, 0))), [(2, .inr (0, (0, 10)))]),
  .inr (11, 6, .inl (.inl none), [(5, .inl (some 127)), (4, .inl (some 117)), (3, .inl (some 107)), (2, .inl (some 97)), (1, .inl (some 87)), (0, .inl (some 77))]),
  .inr (0, 3, .inl (.inr (0, (0, 0))), []),
  .inr (0, 8, .inl (.inr (0, (0, 0))), []),
  .inl (9, [.inl (.inl (some 24)), .inl (.inl (some 25))]),
  .inr (0, 36, .inl (.inr (0, (0, (-1)))), []),
  .inr (0, 36, .inl (.inr (0, (0, (-1)))), []),
  .inl (9, [.inl (.inl (some 27)), .inl (.inl (some 28))]),
  .inr (0, 36, .inl (.inr (0, (0, (-1)))), []),
  .inr (0, 36, .inl (.inr (0, (0, (-1)))), []),
  .inl (9, [.inl (.inl (some 30)), .inl (.inl (some 31))]),
  .inr (0, 36, .inl (.inr (0, (0, (-1)))), []),
  .inr (0, 36, .inl (.inr (0, (0, (-1)))), []),
  .inl (9, [.inl (.inl (some 33)), .inl (.inl (some 34))]),
  .inr (0, 36, .inl (.inr (0, (0, (-1)))), []),
  .inr (0, 36, .inl (.inr (0, (0, (-1)))), []),
  .inl (9, [.inl (.inl (some 36)), .inl (.inl (some 37))]),
  .inr (0, 36, .inl (.inr (0, (0, (-1)))), []),
  .inr (0, 36, .inl (.inr (0, (0, (-1)))), []),
  .inl (9, [.inl (.inl (some 39)), .inl (.inl (some 40))]),
  .inr (0, 36, .inl (.inr (0, (0, (-1)))), []),
  .inr (0, 36, .inl (.inr (0, (0, (-1)))), []),
  .inl (9, [.inl (.inl (some 42)), .inl (.inl (some 43))]),
  .inr (0, 36, .inl (.inr (0, (0, (-1)))), []),
  .inr (0, 36, .inl (.inr (0, (0, (-1)))), []),
  .inl (9, [.inl (.inl (some 45)), .inl (.inl (some 46))]),
  .inr (0, 36, .inl (.inr (0, (0, (-1)))), []),
  .inr (0, 36, .inl (.inr (0, (0, (-1)))), []),
  .inl (9, [.inl (.inl (some 48)), .inl (.inl (some 49))]),
  .inr (0, 36, .inl (.inr (0, (0, (-1)))), []),
  .inr (0, 36, .inl (.inr (0, (0, (-1)))), []),
  .inl (9, [.inl (.inl (some 51)), .inl (.inl (some 52))]),
  .inr (0, 36, .inl (.inr (0, (0, (-1)))), []),
  .inr (0, 36, .inl (.inr (0, (0, (-1)))), []),
  .inl (9, [.inl (.inl (some 54)), .inl (.inl (some 55))]),
  .inr (0, 36, .inl (.inr (0, (0, (-1)))), []),
  .inr (0, 36, .inl (.inr (0, (0, (-1)))), []),
  .inl (9, [.inl (.inl (some 57)), .inl (.inl (some 58))]),
  .inr (0, 36, .inl (.inr (0, (0, (-1)))), []),
  .inr (0, 36, .inl (.inr (0, (0, (-1)))), []),
  .inl (9, [.inl (.inl (some 60)), .inl (.inl (some 61))]),
  .inr (0, 36, .inl (.inr (0, (0, (-1)))), []),
  .inr (0, 36, .inl (.inr (0, (0, (-1)))), []),
  .inl (9, [.inl (.inl (some 63)), .inl (.inl (some 64))]),
  .inr (0, 36, .inl (.inr (0, (0, (-1)))), []),
  .inr (0, 36, .inl (.inr (0, (0, (-1)))), []),
  .inl (9, [.inl (.inl (some 66)), .inl (.inl (some 67))]),
  .inr (0, 36, .inl (.inr (0, (0, (-1)))), []),
  .inr (0, 36, .inl (.inr (0, (0, (-1)))), []),
  .inl (9, [.inl (.inl (some 69)), .inl (.inl (some 70))]),
  .inr (0, 36, .inl (.inr (0, (0, (-1)))), []),
  .inr (0, 36, .inl (.inr (0, (0, (-1)))), []),
  .inl (9, [.inl (.inl (some 72)), .inl (.inl (some 73))]),
  .inr (0, 36, .inl (.inr (0, (0, (-1)))), []),
  .inr (0, 36, .inl (.inr (0, (0, (-1)))), []),
  .inl (9, [.inl (.inl (some 75)), .inl (.inl (some 76))]),
  .inr (0, 36, .inl (.inr (0, (0, (-1)))), []),
  .inr (0, 36, .inl (.inr (0, (0, (-1)))), []),
  .inl (6, [.inl (.inr (0, (0, 0))), .inl (.inl (some 78)), .inl (.inl (some 79)), .inl (.inl (some 80)), .inl (.inr (0, (0, 0))), .inl (.inl (some 81)), .inl (.inl (some 82)), .inl (.inl (some 83)), .inl (.inl (some 84)), .inl (.inl (some 85)), .inl (.inl (some 86))]),
  .inr (0, 400, .inl (.inr (0, (0, 0))), []),
  .inr (0, 400, .inl (.inr (0, (0, 0))), []),
  .inr (2, 64, .inl (.inr (1, (0, 0))), []),
  .inr (0, 12, .inl (.inr (0, (0, 0))), []),
  .inr (0, 12, .inl (.inr (0, (0, 0))), []),
  .inr (0, 12, .inl (.inr (0, (0, 0))), []),
  .inr (0, 12, .inl (.inr (0, (0, 0))), []),
  .inr (0, 12, .inl (.inr (0, (0, 0))), []),
  .inr (0, 12, .inl (.inr (0, (0, 0))), []),
  .inl (6, [.inl (.inr (0, (0, 0))), .inl (.inl (some 88)), .inl (.inl (some 89)), .inl (.inl (some 90)), .inl (.inr (0, (0, 0))), .inl (.inl (some 91)), .inl (.inl (some 92)), .inl (.inl (some 93)), .inl (.inl (some 94)), .inl (.inl (some 95)), .inl (.inl (some 96))]),
  .inr (0, 400, .inl (.inr (0, (0, 0))), []),
  .inr (0, 400, .inl (.inr (0, (0, 0))), []),
  .inr (2, 64, .inl (.inr (1, (0, 0))), []),
  .inr (0, 12, .inl (.inr (0, (0, 0))), []),
  .inr (0, 12, .inl (.inr (0, (0, 0))), []),
  .inr (0, 12, .inl (.inr (0, (0, 0))), []),
  .inr (0, 12, .inl (.inr (0, (0, 0))), []),
  .inr (0, 12, .inl (.inr (0, (0, 0))), []),
  .inr (0, 12, .inl (.inr (0, (0, 0))), []),
  .inl (6, [.inl (.inr (0, (0, 0))), .inl (.inl (some 98)), .inl (.inl (some 99)), .inl (.inl (some 100)), .inl (.inr (0, (0, 0))), .inl (.inl (some 101)), .inl (.inl (some 102)), .inl (.inl (some 103)), .inl (.inl (some 104)), .inl (.inl (some 105)), .inl (.inl (some 106))]),
  .inr (0, 400, .inl (.inr (0, (0, 0))), []),
  .inr (0, 400, .inl (.inr (0, (0, 0))), []),
  .inr (2, 64, .inl (.inr (1, (0, 0))), []),
  .inr (0, 12, .inl (.inr (0, (0, 0))), []),
  .inr (0, 12, .inl (.inr (0, (0, 0))), []),
  .inr (0, 12, .inl (.inr (0, (0, 0))), []),
  .inr (0, 12, .inl (.inr (0, (0, 0))), []),
  .inr (0, 12, .inl (.inr (0, (0, 0))), []),
  .inr (0, 12, .inl (.inr (0, (0, 0))), []),
  .inl (6, [.inl (.inr (0, (0, 0))), .inl (.inl (some 108)), .inl (.inl (some 109)), .inl (.inl (some 110)), .inl (.inr (0, (0, 0))), .inl (.inl (some 111)), .inl (.inl (some 112)), .inl (.inl (some 113)), .inl (.inl (some 114)), .inl (.inl (some 115)), .inl (.inl (some 116))]),
  .inr (0, 400, .inl (.inr (0, (0, 0))), []),
  .inr (0, 400, .inl (.inr (0, (0, 0))), []),
  .inr (2, 64, .inl (.inr (1, (0, 0))), []),
  .inr (0, 12, .inl (.inr (0, (0, 0))), []),
  .inr (0, 12, .inl (.inr (0, (0, 0))), []),
  .inr (0, 12, .inl (.inr (0, (0, 0))), []),
  .inr (0, 12, .inl (.inr (0, (0, 0))), []),
  .inr (0, 12, .inl (.inr (0, (0, 0))), []),
  .inr (0, 12, .inl (.inr (0, (0, 0))), []),
  .inl (6, [.inl (.inr (0, (0, 0))), .inl (.inl (some 118)), .inl (.inl (some 119)), .inl (.inl (some 120)), .inl (.inr (0, (0, 0))), .inl (.inl (some 121)), .inl (.inl (some 122)), .inl (.inl (some 123)), .inl (.inl (some 124)), .inl (.inl (some 125)), .inl (.inl (some 126))]),
  .inr (0, 400, .inl (.inr (0, (0, 0))), []),
  .inr (0, 400, .inl (.inr (0, (0, 0))), []),
  .inr (2, 64, .inl (.inr (1, (0, 0))), []),
  .inr (0, 12, .inl (.inr (0, (0, 0))), []),
  .inr (0, 12, .inl (.inr (0, (0, 0))), []),
  .inr (0, 12, .inl (.inr (0, (0, 0))), []),
  .inr (0, 12, .inl (.inr (0, (0, 0))), []),
  .inr (0, 12, .inl (.inr (0, (0, 0))), []),
  .inr (0, 12, .inl (.inr (0, (0, 0))), []),
  .inl (6, [.inl (.inr (0, (0, 0))), .inl (.inl (some 128)), .inl (.inl (some 129)), .inl (.inl (some 130)), .inl (.inr (0, (0, 0))), .inl (.inl (some 131)), .inl (.inl (some 132)), .inl (.inl (some 133)), .inl (.inl (some 134)), .inl (.inl (some 135)), .inl (.inl (some 136))]),
  .inr (0, 400, .inl (.inr (0, (0, 0))), []),
  .inr (0, 400, .inl (.inr (0, (0, 0))), []),
  .inr (2, 64, .inl (.inr (1, (0, 0))), []),
  .inr (0, 12, .inl (.inr (0, (0, 0))), []),
  .inr (0, 12, .inl (.inr (0, (0, 0))), []),
  .inr (0, 12, .inl (.inr (0, (0, 0))), []),
  .inr (0, 12, .inl (.inr (0, (0, 0))), []),
  .inr (0, 12, .inl (.inr (0, (0, 0))), []),
  .inr (0, 12, .inl (.inr (0, (0, 0))), []),
  .inr (15, 2, .inl (.inl none), [(1, .inl (some 274)), (0, .inl (some 138))]),
  .inl (10, [.inl (.inr (0, (0, 0))), .inl (.inl (some 139)), .inl (.inl (some 140)), .inl (.inl (some 141)), .inl (.inl (some 142)), .inl (.inr (0, (0, 0))), .inl (.inl (some 146)), .inl (.inl (some 147)), .inl (.inl (some 148)), .inl (.inl (some 149)), .inl (.inr (0, (0, 0))), .inl (.inl (some 150)), .inl (.inl (some 151)), .inl (.inl (some 156)), .inl (.inr (0, (0, 0))), .inl (.inr (0, (0, (-1)))), .inl (.inl (some 157)), .inl (.inl (some 158)), .inl (.inl (some 159))]),
  .inr (0, 6, .inl (.inr (0, (0, 0))), []),
  .inr (0, 6, .inl (.inr (0, (0, 0))), []),
  .inr (14, 6, .inl (.inl none), [(5, .inl (some 175)), (4, .inl (some 172)), (3, .inl (some 169)), (2, .inl (some 166)), (1, .inl (some 163)), (0, .inl (some 160))]),
  .inl (5, [.inl (.inr (0, (0, 0))), .inl (.inl (some 143)), .inl (.inl (some 144)), .inl (.inl (some 145))]),
  .inr (0, 8, .inl (.inr (0, (0, 0))), []),
  .inr (0, 8, .inl (.inr (0, (0, 0))), []),
  .inr (0, 8, .inl (.inr (0, (0, 0))), []),
  .inr (0, 12, .inl (.inr (0, (0, 0))), []),
  .inr (0, 12, .inl (.inr (0, (0, 0))), []),
  .inr (0, 12, .inl (.inr (0, (0, 0))), []),
  .inr (14, 12, .inl (.inl none), [(11, .inl (some 211)), (10, .inl (some 208)), (9, .inl (some 205)), (8, .inl (some 202)), (7, .inl (some 199)), (6, .inl (some 196)), (5, .inl (some 193)), (4, .inl (some 190)), (3, .inl (some 187)), (2, .inl (some 184)), (1, .inl (some 181)), (0, .inl (some 178))]),
  .inr (0, 12, .inl (.inr (0, (0, 0))), []),
  .inl (2, [.inl (.inr (0, (0, 0))), .inl (.inl (some 152)), .inl (.inl (some 153)), .inl (.inl (some 154)), .inl (.inl (some 155))]),
  .inr (0, 12, .inl (.inr (0, (0, 0))), []),
  .inr (0, 12, .inl (.inr (0, (0, 0))), []),
  .inr (0, 12, .inl (.inr (0, (0, 0))), []),
  .inr (0, 4, .inl (.inr (0, (0, 0))), []),
  .inr (0, 3, .inl (.inr (0, (0, 0))), [(2, .inr (0, (0, 10)))]),
  .inr (11, 6, .inl (.inl none), [(5, .inl (some 264)), (4, .inl (some 254)), (3, .inl (some 244)), (2, .inl (some 234)), (1, .inl (some 224)), (0, .inl (some 214))]),
  .inr (0, 3, .inl (.inr (0, (0, 0))), []),
  .inr (0, 8, .inl (.inr (0, (0, 0))), []),
  .inl (9, [.inl (.inl (some 161)), .inl (.inl (some 162))]),
  .inr (0, 36, .inl (.inr (0, (0, (-1)))), []),
  .inr (0, 36, .inl (.inr (0, (0, (-1)))), []),
  .inl (9, [.inl (.inl (some 164)), .inl (.inl (some 165))]),
  .inr (0, 36, .inl (.inr (0, (0, (-1)))), []),
  .inr (0, 36, .inl (.inr (0, (0, (-1)))), []),
  .inl (9, [.inl (.inl (some 167)), .inl (.inl (some 168))]),
  .inr (0, 36, .inl (.inr (0, (0, (-1)))), []),
  .inr (0, 36, .inl (.inr (0, (0, (-1)))), []),
  .inl (9, [.inl (.inl (some 170)), .inl (.inl (some 171))]),
  .inr (0, 36, .inl (.inr (0, (0, (-1)))), []),
  .inr (0, 36, .inl (.inr (0, (0, (-1)))), []),
  .inl (9, [.inl (.inl (some 173)), .inl (.inl (some 174))]),
  .inr (0, 36, .inl (.inr (0, (0, (-1)))), []),
  .inr (0, 36, .inl (.inr (0, (0, (-1)))), []),
  .inl (9, [.inl (.inl (some 176)), .inl (.inl (some 177))]),
  .inr (0, 36, .inl (.inr (0, (0, (-1)))), []),
  .inr (0, 36, .inl (.inr (0, (0, (-1)))), []),
  .inl (9, [.inl (.inl (some 179)), .inl (.inl (some 180))]),
  .inr (0, 36, .inl (.inr (0, (0, (-1)))), []),
  .inr (0, 36, .inl (.inr (0, (0, (-1)))), []),
  .inl (9, [.inl (.inl (some 182)), .inl (.inl (some 183))]),
  .inr (0, 36, .inl (.inr (0, (0, (-1)))), []),
  .inr (0, 36, .inl (.inr (0, (0, (-1)))), []),
  .inl (9, [.inl (.inl (some 185)), .inl (.inl (some 186))]),
  .inr (0, 36, .inl (.inr (0, (0, (-1)))), []),
  .inr (0, 36, .inl (.inr (0, (0, (-1)))), []),
  .inl (9, [.inl (.inl (some 188)), .inl (.inl (some 189))]),
  .inr (0, 36, .inl (.inr (0, (0, (-1)))), []),
  .inr (0, 36, .inl (.inr (0, (0, (-1)))), []),
  .inl (9, [.inl (.inl (some 191)), .inl (.inl (some 192))]),
  .inr (0, 36, .inl (.inr (0, (0, (-1)))), []),
  .inr (0, 36, .inl (.inr (0, (0, (-1)))), []),
  .inl (9, [.inl (.inl (some 194)), .inl (.inl (some 195))]),
  .inr (0, 36, .inl (.inr (0, (0, (-1)))), []),
  .inr (0, 36, .inl (.inr (0, (0, (-1)))), []),
  .inl (9, [.inl (.inl (some 197)), .inl (.inl (some 198))]),
  .inr (0, 36, .inl (.inr (0, (0, (-1)))), []),
  .inr (0, 36, .inl (.inr (0, (0, (-1)))), []),
  .inl (9, [.inl (.inl (some 200)), .inl (.inl (some 201))]),
  .inr (0, 36, .inl (.inr (0, (0, (-1)))), []),
  .inr (0, 36, .inl (.inr (0, (0, (-1)))), []),
  .inl (9, [.inl (.inl (some 203)), .inl (.inl (some 204))]),
  .inr (0, 36, .inl (.inr (0, (0, (-1)))), []),
  .inr (0, 36, .inl (.inr (0, (0, (-1)))), []),
  .inl (9, [.inl (.inl (some 206)), .inl (.inl (some 207))]),
  .inr (0, 36, .inl (.inr (0, (0, (-1)))), []),
  .inr (0, 36, .inl (.inr (0, (0, (-1)))), []),
  .inl (9, [.inl (.inl (some 209)), .inl (.inl (some 210))]),
  .inr (0, 36, .inl (.inr (0, (0, (-1)))), []),
  .inr (0, 36, .inl (.inr (0, (0, (-1)))), []),
  .inl (9, [.inl (.inl (some 212)), .inl (.inl (some 213))]),
  .inr (0, 36, .inl (.inr (0, (0, (-1)))), []),
  .inr (0, 36, .inl (.inr (0, (0, (-1)))), []),
  .inl (6, [.inl (.inr (0, (0, 0))), .inl (.inl (some 215)), .inl (.inl (some 216)), .inl (.inl (some 217)), .inl (.inr (0, (0, 0))), .inl (.inl (some 218)), .inl (.inl (some 219)), .inl (.inl (some 220)), .inl (.inl (some 221)), .inl (.inl (some 222)), .inl (.inl (some 223))]),
  .inr (0, 400, .inl (.inr (0, (0, 0))), []),
  .inr (0, 400, .inl (.inr (0, (0, 0))), []),
  .inr (2, 64, .inl (.inr (1, (0, 0))), []),
  .inr (0, 12, .inl (.inr (0, (0, 0))), []),
  .inr (0, 12, .inl (.inr (0, (0, 0))), []),
  .inr (0, 12, .inl (.inr (0, (0, 0))), []),
  .inr (0, 12, .inl (.inr (0, (0, 0))), []),
  .inr (0, 12, .inl (.inr (0, (0, 0))), []),
  .inr (0, 12, .inl (.inr (0, (0, 0))), []),
  .inl (6, [.inl (.inr (0, (0, 0))), .inl (.inl (some 225)), .inl (.inl (some 226)), .inl (.inl (some 227)), .inl (.inr (0, (0, 0))), .inl (.inl (some 228)), .inl (.inl (some 229)), .inl (.inl (some 230)), .inl (.inl (some 231)), .inl (.inl (some 232)), .inl (.inl (some 233))]),
  .inr (0, 400, .inl (.inr (0, (0, 0))), []),
  .inr (0, 400, .inl (.inr (0, (0, 0))), []),
  .inr (2, 64, .inl (.inr (1, (0, 0))), []),
  .inr (0, 12, .inl (.inr (0, (0, 0))), []),
  .inr (0, 12, .inl (.inr (0, (0, 0))), []),
  .inr (0, 12, .inl (.inr (0, (0, 0))), []),
  .inr (0, 12, .inl (.inr (0, (0, 0))), []),
  .inr (0, 12, .inl (.inr (0, (0, 0))), []),
  .inr (0, 12, .inl (.inr (0, (0, 0))), []),
  .inl (6, [.inl (.inr (0, (0, 0))), .inl (.inl (some 235)), .inl (.inl (some 236)), .inl (.inl (some 237)), .inl (.inr (0, (0, 0))), .inl (.inl (some 238)), .inl (.inl (some 239)), .inl (.inl (some 240)), .inl (.inl (some 241)), .inl (.inl (some 242)), .inl (.inl (some 243))]),
  .inr (0, 400, .inl (.inr (0, (0, 0))), []),
  .inr (0, 400, .inl (.inr (0, (0, 0))), []),
  .inr (2, 64, .inl (.inr (1, (0, 0))), []),
  .inr (0, 12, .inl (.inr (0, (0, 0))), []),
  .inr (0, 12, .inl (.inr (0, (0, 0))), []),
  .inr (0, 12, .inl (.inr (0, (0, 0))), []),
  .inr (0, 12, .inl (.inr (0, (0, 0))), []),
  .inr (0, 12, .inl (.inr (0, (0, 0))), []),
  .inr (0, 12, .inl (.inr (0, (0, 0))), []),
  .inl (6, [.inl (.inr (0, (0, 0))), .inl (.inl (some 245)), .inl (.inl (some 246)), .inl (.inl (some 247)), .inl (.inr (0, (0, 0))), .inl (.inl (some 248)), .inl (.inl (some 249)), .inl (.inl (some 250)), .inl (.inl (some 251)), .inl (.inl (some 252)), .inl (.inl (some 253))]),
  .inr (0, 400, .inl (.inr (0, (0, 0))), []),
  .inr (0, 400, .inl (.inr (0, (0, 0))), []),
  .inr (2, 64, .inl (.inr (1, (0, 0))), []),
  .inr (0, 12, .inl (.inr (0, (0, 0))), []),
  .inr (0, 12, .inl (.inr (0, (0, 0))), []),
  .inr (0, 12, .inl (.inr (0, (0, 0))), []),
  .inr (0, 12, .inl (.inr (0, (0, 0))), []),
  .inr (0, 12, .inl (.inr (0, (0, 0))), []),
  .inr (0, 12, .inl (.inr (0, (0, 0))), []),
  .inl (6, [.inl (.inr (0, (0, 0))), .inl (.inl (some 255)), .inl (.inl (some 256)), .inl (.inl (some 257)), .inl (.inr (0, (0, 0))), .inl (.inl (some 258)), .inl (.inl (some 259)), .inl (.inl (some 260)), .inl (.inl (some 261)), .inl (.inl (some 262)), .inl (.inl (some 263))]),
  .inr (0, 400, .inl (.inr (0, (0, 0))), []),
  .inr (0, 400, .inl (.inr (0, (0, 0))), []),
  .inr (2, 64, .inl (.inr (1, (0, 0))), []),
  .inr (0, 12, .inl (.inr (0, (0, 0))), []),
  .inr (0, 12, .inl (.inr (0, (0, 0))), []),
  .inr (0, 12, .inl (.inr (0, (0, 0))), []),
  .inr (0, 12, .inl (.inr (0, (0, 0))), []),
  .inr (0, 12, .inl (.inr (0, (0, 0))), []),
  .inr (0, 12, .inl (.inr (0, (0, 0))), []),
  .inl (6, [.inl (.inr (0, (0, 0))), .inl (.inl (some 265)), .inl (.inl (some 266)), .inl (.inl (some 267)), .inl (.inr (0, (0, 0))), .inl (.inl (some 268)), .inl (.inl (some 269)), .inl (.inl (some 270)), .inl (.inl (some 271)), .inl (.inl (some 272)), .inl (.inl (some 273))]),
  .inr (0, 400, .inl (.inr (0, (0, 0))), []),
  .inr (0, 400, .inl (.inr (0, (0, 0))), []),
  .inr (2, 64, .inl (.inr (1, (0, 0))), []),
  .inr (0, 12, .inl (.inr (0, (0, 0))), []),
  .inr (0, 12, .inl (.inr (0, (0, 0))), []),
  .inr (0, 12, .inl (.inr (0, (0, 0))), []),
  .inr (0, 12, .inl (.inr (0, (0, 0))), []),
  .inr (0, 12, .inl (.inr (0, (0, 0))), []),
  .inr (0, 12, .inl (.inr (0, (0, 0))), []),
  .inl (10, [.inl (.inr (0, (0, 0))), .inl (.inl (some 275)), .inl (.inl (some 276)), .inl (.inl (some 277)), .inl (.inl (some 278)), .inl (.inr (0, (0, 0))), .inl (.inl (some 282)), .inl (.inl (some 283)), .inl (.inl (some 284)), .inl (.inl (some 285)), .inl (.inr (0, (0, 0))), .inl (.inl (some 286)), .inl (.inl (some 287)), .inl (.inl (some 292)), .inl (.inr (0, (0, 0))), .inl (.inr (0, (0, (-1)))), .inl (.inl (some 293)), .inl (.inl (some 294)), .inl (.inl (some 295))]),
  .inr (0, 6, .inl (.inr (0, (0, 0))), []),
  .inr (0, 6, .inl (.inr (0, (0, 0))), []),
  .inr (14, 6, .inl (.inl none), [(5, .inl (some 311)), (4, .inl (some 308)), (3, .inl (some 305)), (2, .inl (some 302)), (1, .inl (some 299)), (0, .inl (some 296))]),
  .inl (5, [.inl (.inr (0, (0, 0))), .inl (.inl (some 279)), .inl (.inl (some 280)), .inl (.inl (some 281))]),
  .inr (0, 8, .inl (.inr (0, (0, 0))), []),
  .inr (0, 8, .inl (.inr (0, (0, 0))), []),
  .inr (0, 8, .inl (.inr (0, (0, 0))), []),
  .inr (0, 12, .inl (.inr (0, (0, 0))), []),
  .inr (0, 12, .inl (.inr (0, (0, 0))), []),
  .inr (0, 12, .inl (.inr (0, (0, 0))), []),
  .inr (14, 12, .inl (.inl none), [(11, .inl (some 347)), (10, .inl (some 344)), (9, .inl (some 341)), (8, .inl (some 338)), (7, .inl (some 335)), (6, .inl (some 332)), (5, .inl (some 329)), (4, .inl (some 326)), (3, .inl (some 323)), (2, .inl (some 320)), (1, .inl (some 317)), (0, .inl (some 314))]),
  .inr (0, 12, .inl (.inr (0, (0, 0))), []),
  .inl (2, [.inl (.inr (0, (0, 0))), .inl (.inl (some 288)), .inl (.inl (some 289)), .inl (.inl (some 290)), .inl (.inl (some 291))]),
  .inr (0, 12, .inl (.inr (0, (0, 0))), []),
  .inr (0, 12, .inl (.inr (0, (0, 0))), []),
  .inr (0, 12, .inl (.inr (0, (0, 0))), []),
  .inr (0, 4, .inl (.inr (0, (0, 0))), []),
  .inr (0, 3, .inl (.inr (0, (0, 0))), [(2, .inr (0, (0, 10)))]),
  .inr (11, 6, .inl (.inl none), [(5, .inl (some 400)), (4, .inl (some 390)), (3, .inl (some 380)), (2, .inl (some 370)), (1, .inl (some 360)), (0, .inl (some 350))]),
  .inr (0, 3, .inl (.inr (0, (0, 0))), []),
  .inr (0, 8, .inl (.inr (0, (0, 0))), []),
  .inl (9, [.inl (.inl (some 297)), .inl (.inl (some 298))]),
  .inr (0, 36, .inl (.inr (0, (0, (-1)))), []),
  .inr (0, 36, .inl (.inr (0, (0, (-1)))), []),
  .inl (9, [.inl (.inl (some 300)), .inl (.inl (some 301))]),
  .inr (0, 36, .inl (.inr (0, (0, (-1)))), []),
  .inr (0, 36, .inl (.inr (0, (0, (-1)))), []),
  .inl (9, [.inl (.inl (some 303)), .inl (.inl (some 304))]),
  .inr (0, 36, .inl (.inr (0, (0, (-1)))), []),
  .inr (0, 36, .inl (.inr (0, (0, (-1)))), []),
  .inl (9, [.inl (.inl (some 306)), .inl (.inl (some 307))]),
  .inr (0, 36, .inl (.inr (0, (0, (-1)))), []),
  .inr (0, 36, .inl (.inr (0, (0, (-1)))), []),
  .inl (9, [.inl (.inl (some 309)), .inl (.inl (some 310))]),
  .inr (0, 36, .inl (.inr (0, (0, (-1)))), []),
  .inr (0, 36, .inl (.inr (0, (0, (-1)))), []),
  .inl (9, [.inl (.inl (some 312)), .inl (.inl (some 313))]),
  .inr (0, 36, .inl (.inr (0, (0, (-1)))), []),
  .inr (0, 36, .inl (.inr (0, (0, (-1)))), []),
  .inl (9, [.inl (.inl (some 315)), .inl (.inl (some 316))]),
  .inr (0, 36, .inl (.inr (0, (0, (-1)))), []),
  .inr (0, 36, .inl (.inr (0, (0, (-1)))), []),
  .inl (9, [.inl (.inl (some 318)), .inl (.inl (some 319))]),
  .inr (0, 36, .inl (.inr (0, (0, (-1)))), []),
  .inr (0, 36, .inl (.inr (0, (0, (-1)))), []),
  .inl (9, [.inl (.inl (some 321)), .inl (.inl (some 322))]),
  .inr (0, 36, .inl (.inr (0, (0, (-1)))), []),
  .inr (0, 36, .inl (.inr (0, (0, (-1)))), []),
  .inl (9, [.inl (.inl (some 324)), .inl (.inl (some 325))]),
  .inr (0, 36, .inl (.inr (0, (0, (-1)))), []),
  .inr (0, 36, .inl (.inr (0, (0, (-1)))), []),
  .inl (9, [.inl (.inl (some 327)), .inl (.inl (some 328))]),
  .inr (0, 36, .inl (.inr (0, (0, (-1)))), []),
  .inr (0, 36, .inl (.inr (0, (0, (-1)))), []),
  .inl (9, [.inl (.inl (some 330)), .inl (.inl (some 331))]),
  .inr (0, 36, .inl (.inr (0, (0, (-1)))), []),
  .inr (0, 36, .inl (.inr (0, (0, (-1)))), []),
  .inl (9, [.inl (.inl (some 333)), .inl (.inl (some 334))]),
  .inr (0, 36, .inl (.inr (0, (0, (-1)))), []),
  .inr (0, 36, .inl (.inr (0, (0, (-1)))), []),
  .inl (9, [.inl (.inl (some 336)), .inl (.inl (some 337))]),
  .inr (0, 36, .inl (.inr (0, (0, (-1)))), []),
  .inr (0, 36, .inl (.inr (0, (0, (-1)))), []),
  .inl (9, [.inl (.inl (some 339)), .inl (.inl (some 340))]),
  .inr (0, 36, .inl (.inr (0, (0, (-1)))), []),
  .inr (0, 36, .inl (.inr (0, (0, (-1)))), []),
  .inl (9, [.inl (.inl (some 342)), .inl (.inl (some 343))]),
  .inr (0, 36, .inl (.inr (0, (0, (-1)))), []),
  .inr (0, 36, .inl (.inr (0, (0, (-1)))), []),
  .inl (9, [.inl (.inl (some 345)), .inl (.inl (some 346))]),
  .inr (0, 36, .inl (.inr (0, (0, (-1)))), []),
  .inr (0, 36, .inl (.inr (0, (0, (-1)))), []),
  .inl (9, [.inl (.inl (some 348)), .inl (.inl (some 349))]),
  .inr (0, 36, .inl (.inr (0, (0, (-1)))), []),
  .inr (0, 36, .inl (.inr (0, (0, (-1)))), []),
  .inl (6, [.inl (.inr (0, (0, 0))), .inl (.inl (some 351)), .inl (.inl (some 352)), .inl (.inl (some 353)), .inl (.inr (0, (0, 0))), .inl (.inl (some 354)), .inl (.inl (some 355)), .inl (.inl (some 356)), .inl (.inl (some 357)), .inl (.inl (some 358)), .inl (.inl (some 359))]),
  .inr (0, 400, .inl (.inr (0, (0, 0))), []),
  .inr (0, 400, .inl (.inr (0, (0, 0))), []),
  .inr (2, 64, .inl (.inr (1, (0, 0))), []),
  .inr (0, 12, .inl (.inr (0, (0, 0))), []),
  .inr (0, 12, .inl (.inr (0, (0, 0))), []),
  .inr (0, 12, .inl (.inr (0, (0, 0))), []),
  .inr (0, 12, .inl (.inr (0, (0, 0))), []),
  .inr (0, 12, .inl (.inr (0, (0, 0))), []),
  .inr (0, 12, .inl (.inr (0, (0, 0))), []),
  .inl (6, [.inl (.inr (0, (0, 0))), .inl (.inl (some 361)), .inl (.inl (some 362)), .inl (.inl (some 363)), .inl (.inr (0, (0, 0))), .inl (.inl (some 364)), .inl (.inl (some 365)), .inl (.inl (some 366)), .inl (.inl (some 367)), .inl (.inl (some 368)), .inl (.inl (some 369))]),
  .inr (0, 400, .inl (.inr (0, (0, 0))), []),
  .inr (0, 400, .inl (.inr (0, (0, 0))), []),
  .inr (2, 64, .inl (.inr (1, (0, 0))), []),
  .inr (0, 12, .inl (.inr (0, (0, 0))), []),
  .inr (0, 12, .inl (.inr (0, (0, 0))), []),
  .inr (0, 12, .inl (.inr (0, (0, 0))), []),
  .inr (0, 12, .inl (.inr (0, (0, 0))), []),
  .inr (0, 12, .inl (.inr (0, (0, 0))), []),
  .inr (0, 12, .inl (.inr (0, (0, 0))), []),
  .inl (6, [.inl (.inr (0, (0, 0))), .inl (.inl (some 371)), .inl (.inl (some 372)), .inl (.inl (some 373)), .inl (.inr (0, (0, 0))), .inl (.inl (some 374)), .inl (.inl (some 375)), .inl (.inl (some 376)), .inl (.inl (some 377)), .inl (.inl (some 378)), .inl (.inl (some 379))]),
  .inr (0, 400, .inl (.inr (0, (0, 0))), []),
  .inr (0, 400, .inl (.inr (0, (0, 0))), []),
  .inr (2, 64, .inl (.inr (1, (0, 0))), []),
  .inr (0, 12, .inl (.inr (0, (0, 0))), []),
  .inr (0, 12, .inl (.inr (0, (0, 0))), []),
  .inr (0, 12, .inl (.inr (0, (0, 0))), []),
  .inr (0, 12, .inl (.inr (0, (0, 0))), []),
  .inr (0, 12, .inl (.inr (0, (0, 0))), []),
  .inr (0, 12, .inl (.inr (0, (0, 0))), []),
  .inl (6, [.inl (.inr (0, (0, 0))), .inl (.inl (some 381)), .inl (.inl (some 382)), .inl (.inl (some 383)), .inl (.inr (0, (0, 0))), .inl (.inl (some 384)), .inl (.inl (some 385)), .inl (.inl (some 386)), .inl (.inl (some 387)), .inl (.inl (some 388)), .inl (.inl (some 389))]),
  .inr (0, 400, .inl (.inr (0, (0, 0))), []),
  .inr (0, 400, .inl (.inr (0, (0, 0))), []),
  .inr (2, 64, .inl (.inr (1, (0, 0))), []),
  .inr (0, 12, .inl (.inr (0, (0, 0))), []),
  .inr (0, 12, .inl (.inr (0, (0, 0))), []),
  .inr (0, 12, .inl (.inr (0, (0, 0))), []),
  .inr (0, 12, .inl (.inr (0, (0, 0))), []),
  .inr (0, 12, .inl (.inr (0, (0, 0))), []),
  .inr (0, 12, .inl (.inr (0, (0, 0))), []),
  .inl (6, [.inl (.inr (0, (0, 0))), .inl (.inl (some 391)), .inl (.inl (some 392)), .inl (.inl (some 393)), .inl (.inr (0, (0, 0))), .inl (.inl (some 394)), .inl (.inl (some 395)), .inl (.inl (some 396)), .inl (.inl (some 397)), .inl (.inl (some 398)), .inl (.inl (some 399))]),
  .inr (0, 400, .inl (.inr (0, (0, 0))), []),
  .inr (0, 400, .inl (.inr (0, (0, 0))), []),
  .inr (2, 64, .inl (.inr (1, (0, 0))), []),
  .inr (0, 12, .inl (.inr (0, (0, 0))), []),
  .inr (0, 12, .inl (.inr (0, (0, 0))), []),
  .inr (0, 12, .inl (.inr (0, (0, 0))), []),
  .inr (0, 12, .inl (.inr (0, (0, 0))), []),
  .inr (0, 12, .inl (.inr (0, (0, 0))), []),
  .inr (0, 12, .inl (.inr (0, (0, 0))), []),
  .inl (6, [.inl (.inr (0, (0, 0))), .inl (.inl (some 401)), .inl (.inl (some 402)), .inl (.inl (some 403)), .inl (.inr (0, (0, 0))), .inl (.inl (some 404)), .inl (.inl (some 405)), .inl (.inl (some 406)), .inl (.inl (some 407)), .inl (.inl (some 408)), .inl (.inl (some 409))]),
  .inr (0, 400, .inl (.inr (0, (0, 0))), []),
  .inr (0, 400, .inl (.inr (0, (0, 0))), []),
  .inr (2, 64, .inl (.inr (1, (0, 0))), []),
  .inr (0, 12, .inl (.inr (0, (0, 0))), []),
  .inr (0, 12, .inl (.inr (0, (0, 0))), []),
  .inr (0, 12, .inl (.inr (0, (0, 0))), []),
  .inr (0, 12, .inl (.inr (0, (0, 0))), []),
  .inr (0, 12, .inl (.inr (0, (0, 0))), []),
  .inr (0, 12, .inl (.inr (0, (0, 0))), []),
  .inr (1, 2, .inl (.inr (0, (0, 0))), []),
  .inr (0, 400, .inl (.inr (0, (0, 0))), []),
  .inl (7, [.inl (.inl (some 413)), .inl (.inr (0, (0, 0))), .inl (.inr (0, (0, 0))), .inl (.inr (0, (0, 0))), .inl (.inr (0, (0, (-1)))), .inl (.inr (0, (0, 0))), .inl (.inl (some 414)), .inl (.inr (0, (0, 0))), .inl (.inr (0, (0, 0))), .inl (.inl (some 424)), .inl (.inr (0, (0, 0))), .inl (.inl (some 425)), .inl (.inl (some 426))]),
  .inr (0, 0, .inl (.inr (0, (0, 0))), []),
  .inl (6, [.inl (.inr (0, (0, 0))), .inl (.inl (some 415)), .inl (.inl (some 416)), .inl (.inl (some 417)), .inl (.inr (0, (0, 0))), .inl (.inl (some 418)), .inl (.inl (some 419)), .inl (.inl (some 420)), .inl (.inl (some 421)), .inl (.inl (some 422)), .inl (.inl (some 423))]),
  .inr (0, 400, .inl (.inr (0, (0, 0))), []),
  .inr (0, 400, .inl (.inr (0, (0, 0))), []),
  .inr (2, 64, .inl (.inr (1, (0, 0))), []),
  .inr (0, 12, .inl (.inr (0, (0, 0))), []),
  .inr (0, 12, .inl (.inr (0, (0, 0))), []),
  .inr (0, 12, .inl (.inr (0, (0, 0))), []),
  .inr (0, 12, .inl (.inr (0, (0, 0))), []),
  .inr (0, 12, .inl (.inr (0, (0, 0))), []),
  .inr (0, 12, .inl (.inr (0, (0, 0))), []),
  .inr (0, 9, .inl (.inr (0, (0, 0))), []),
  .inr (0, 400, .inl (.inr (0, (0, 0))), []),
  .inr (0, 400, .inl (.inr (0, (0, 0))), []),
  .inl (6, [.inl (.inr (0, (0, 0))), .inl (.inl (some 428)), .inl (.inl (some 429)), .inl (.inl (some 430)), .inl (.inr (0, (0, 0))), .inl (.inl (some 431)), .inl (.inl (some 432)), .inl (.inl (some 433)), .inl (.inl (some 434)), .inl (.inl (some 435)), .inl (.inl (some 436))]),
  .inr (0, 400, .inl (.inr (0, (0, 0))), []),
  .inr (0, 400, .inl (.inr (0, (0, 0))), []),
  .inr (2, 64, .inl (.inr (1, (0, 0))), []),
  .inr (0, 12, .inl (.inr (0, (0, 0))), []),
  .inr (0, 12, .inl (.inr (0, (0, 0))), []),
  .inr (0, 12, .inl (.inr (0, (0, 0))), []),
  .inr (0, 12, .inl (.inr (0, (0, 0))), []),
  .inr (0, 12, .inl (.inr (0, (0, 0))), []),
  .inr (0, 12, .inl (.inr (0, (0, 0))), []),
  .inr (0, 5, .inl (.inr (0, (0, 0))), []),
  .inl (8, [.inl (.inl (some 439)), .inl (.inl (some 440)), .inl (.inl (some 441)), .inl (.inl (some 442)), .inl (.inr (1, (0, 0))), .inl (.inr (0, (0, 0))), .inl (.inr (0, (0, (-1))))]),
  .inr (0, 36, .inl (.inr (0, (0, 0))), []),
  .inr (0, 36, .inl (.inr (0, (0, 0))), []),
  .inr (0, 36, .inl (.inr (0, (0, 0))), []),
  .inr (0, 36, .inl (.inr (0, (0, 0))), []),
  .inl (3, [.inl (.inl (some 444)), .inl (.inl (some 447)), .inl (.inr (0, (0, 0))), .inl (.inr (0, (0, 0))), .inl (.inr (0, (0, 0))), .inl (.inr (0, (0, 1))), .inl (.inr (0, (0, 0))), .inl (.inl (some 450)), .inl (.inr (0, (0, 0))), .inl (.inr (0, (0, (-1)))), .inl (.inr (0, (0, (-1)))), .inl (.inr (0, (0, (-1)))), .inl (.inr (0, (0, 0))), .inl (.inr (0, (0, (-1)))), .inl (.inr (0, (0, (-1))))]),
  .inl (9, [.inl (.inl (some 445)), .inl (.inl (some 446))]),
  .inr (0, 36, .inl (.inr (0, (0, (-1)))), []),
  .inr (0, 36, .inl (.inr (0, (0, (-1)))), []),
  .inl (9, [.inl (.inl (some 448)), .inl (.inl (some 449))]),
  .inr (0, 36, .inl (.inr (0, (0, (-1)))), []),
  .inr (0, 36, .inl (.inr (0, (0, (-1)))), []),
  .inr (0, 432, .inl (.inr (0, (0, 0))), []),
  .inl (4, [.inl (.inr (0, (0, 0))), .inl (.inl (some 452)), .inl (.inl (some 453)), .inl (.inl (some 454)), .inl (.inl (some 455)), .inl (.inr (0, (0, 0))), .inl (.inr (0, (0, (-1)))), .inl (.inr (0, (0, (-1)))), .inl (.inr (0, (0, 0))), .inl (.inr (0, (0, 0))), .inl (.inr (0, (0, 0))), .inl (.inl (some 456)), .inl (.inl (some 457)), .inl (.inl (some 458))]),
  .inr (0, 12, .inl (.inr (0, (0, 0))), []),
  .inr (0, 12, .inl (.inr (0, (0, 0))), []),
  .inr (0, 12, .inl (.inr (0, (0, 0))), []),
  .inr (0, 4, .inl (.inr (0, (0, 0))), []),
  .inr (0, 12, .inl (.inr (0, (0, 0))), []),
  .inr (0, 18, .inl (.inr (0, (0, 0))), []),
  .inr (0, 18, .inl (.inr (0, (0, 0))), []),
  .inl (1, [.inl (.inl (some 460)), .inl (.inl (some 464)), .inl (.inl (some 465)), .inl (.inl (some 466)), .inl (.inl (some 467)), .inl (.inr (0, (0, 0))), .inl (.inr (0, (0, 0))), .inl (.inr (0, (0, (-1)))), .inl (.inr (0, (0, 0)))]),
  .inl (5, [.inl (.inr (0, (0, 0))), .inl (.inl (some 461)), .inl (.inl (some 462)), .inl (.inl (some 463))]),
  .inr (0, 8, .inl (.inr (0, (0, 0))), []),
  .inr (0, 8, .inl (.inr (0, (0, 0))), []),
  .inr (0, 8, .inl (.inr (0, (0, 0))), []),
  .inr (1, 64, .inl (.inr (0, (0, 0))), []),
  .inr (0, 8, .inl (.inr (0, (0, 0))), []),
  .inr (0, 8, .inl (.inr (0, (0, 0))), []),
  .inr (0, 8, .inl (.inr (0, (0, 0))), []),
  .inl (0, [.inl (.inr (0, (0, 0))), .inl (.inr (0, (0, 0))), .inl (.inl (some 469)), .inl (.inl (some 470)), .inl (.inl (some 471)), .inl (.inl (some 472)), .inl (.inl (some 473)), .inl (.inl (some 474)), .inl (.inr (0, (0, (-1)))), .inl (.inr (0, (0, 0)))]),
  .inr (0, 8, .inl (.inr (0, (0, 0))), []),
  .inr (0, 6, .inl (.inr (0, (0, 0))), []),
  .inr (1, 64, .inl (.inr (0, (0, 0))), []),
  .inr (0, 448, .inl (.inr (0, (0, 0))), []),
  .inr (0, 8, .inl (.inr (0, (0, 0))), []),
  .inr (0, 6, .inl (.inr (0, (0, 0))), []),
  .inr (0, 11, .inl (.inr (0, (0, 0))), []),
  .inl (9, [.inl (.inl (some 477)), .inl (.inl (some 478))]),
  .inr (0, 36, .inl (.inr (0, (0, (-1)))), []),
  .inr (0, 36, .inl (.inr (0, (0, (-1)))), []),
  .inr (0, 8, .inl (.inr (0, (0, 0))), []),
  .inl (12, [.inl (.inr (0, (0, 0))), .inl (.inr (0, (0, 0))), .inl (.inl (some 481)), .inl (.inl (some 482)), .inl (.inl (some 483)), .inl (.inl (some 484)), .inl (.inr (0, (0, 0))), .inl (.inl (some 485)), .inl (.inr (0, (0, 0))), .inl (.inr (0, (0, 0))), .inl (.inr (0, (0, 0))), .inl (.inr (0, (0, 0))), .inl (.inr (1, (0, 0))), .inl (.inr (0, (0, (-1)))), .inl (.inr (0, (0, 0))), .inl (.inr (0, (0, 0))), .inl (.inr (0, (0, 0))), .inl (.inl (some 486)), .inl (.inr (0, (0, 0))), .inl (.inl (some 487)), .inl (.inl (some 488)), .inl (.inr (0, (0, 0))), .inl (.inl (some 489)), .inl (.inl (some 490)), .inl (.inr (0, (0, 0))), .inl (.inr (0, (0, 0))), .inl (.inl (some 491)), .inl (.inl (some 492)), .inl (.inr (0, (0, 0))), .inl (.inl (some 493)), .inl (.inl (some 494)), .inl (.inl (some 495)), .inl (.inr (0, (0, 0))), .inl (.inr (1, (0, 0))), .inl (.inr (1, (0, 0))), .inl (.inl (some 496)), .inl (.inl (some 497)), .inl (.inr (0, (0, 0))), .inl (.inl (some 498)), .inl (.inl (some 499)), .inl (.inl (some 500)), .inl (.inl (some 501)), .inl (.inr (0, (0, 0))), .inl (.inl (some 502)), .inl (.inl (some 503)), .inl (.inr (0, (0, 0))), .inl (.inr (0, (0, 0))), .inl (.inr (0, (0, 0))), .inl (.inr (0, (0, 0))), .inl (.inr (0, (0, 0))), .inl (.inl (some 504)), .inl (.inl (some 505)), .inl (.inl (some 506)), .inl (.inl (some 507)), .inl (.inr (0, (0, 0))), .inl (.inl (some 508)), .inl (.inl (some 509)), .inl (.inl (some 510)), .inl (.inr (0, (0, 0))), .inl (.inr (0, (0, 0))), .inl (.inl (some 511)), .inl (.inl (some 512)), .inl (.inl (some 513)), .inl (.inl (some 514)), .inl (.inl (some 515)), .inl (.inl (some 516)), .inl (.inl (some 517)), .inl (.inl (some 518)), .inl (.inl (some 519)), .inl (.inr (0, (0, 0))), .inl (.inr (0, (0, 0))), .inl (.inr (1, (0, 0))), .inl (.inl (some 520)), .inl (.inl (some 521)), .inl (.inr (0, (0, 0))), .inl (.inr (0, (0, 0)))]),
  .inr (0, 7, .inl (.inr (0, (0, 0))), []),
  .inr (0, 6180, .inl (.inr (0, (0, 0))), [(9, .inr (0, (0, 10))), (4, .inr (0, (0, (-1))))]),
  .inr (0, 12360, .inl (.inr (0, (0, 0))), []),
  .inr (1, 2, .inl (.inr (0, (0, 0))), []),
  .inr (0, 400, .inl (.inr (0, (0, 0))), []),
  .inr (0, 96, .inl (.inr (0, (0, 0))), []),
  .inr (0, 400, .inl (.inr (0, (0, 0))), []),
  .inr (0, 400, .inl (.inr (0, (0, 0))), []),
  .inr (0, 400, .inl (.inr (0, (0, 0))), []),
  .inr (0, 400, .inl (.inr (0, (0, 0))), []),
  .inr (2, 8, .inl (.inr (1, (0, 0))), [(7, .inr (1, (0, 441828))), (6, .inr (1, (0, 824370))), (5, .inr (1, (0, 21643763890))), (4, .inr (1, (0, 525908))), (3, .inr (1, (0, 136228))), (2, .inr (1, (0, 81486))), (1, .inr (1, (0, 441892441))), (0, .inr (1, (0, 542723566)))]),
  .inr (2, 6, .inl (.inr (1, (0, 0))), [(5, .inr (1, (0, 441828))), (4, .inr (1, (0, 525908))), (3, .inr (1, (0, 464660))), (2, .inr (1, (0, 769604))), (1, .inr (1, (0, 3749))), (0, .inr (1, (0, 20579973)))]),
  .inr (2, 13, .inl (.inr (1, (0, 0))), []),
  .inr (2, 13, .inl (.inr (1, (0, 0))), []),
  .inr (2, 400, .inl (.inr (1, (0, 0))), []),
  .inr (0, 120, .inl (.inr (0, (0, 0))), []),
  .inr (0, 12, .inl (.inr (0, (0, 0))), []),
  .inr (0, 36, .inl (.inr (0, (0, 0))), []),
  .inr (0, 36, .inl (.inr (0, (0, 0))), []),
  .inr (0, 36, .inl (.inr (0, (0, 0))), []),
  .inr (0, 40, .inl (.inr (0, (0, 0))), []),
  .inr (0, 432, .inl (.inr (0, (0, 0))), []),
  .inr (0, 434, .inl (.inr (0, (0, 0))), []),
  .inr (0, 10, .inl (.inr (0, (0, 0))), []),
  .inr (0, 8, .inl (.inr (0, (0, 0))), []),
  .inr (0, 8, .inl (.inr (0, (0, 0))), []),
  .inr (0, 8, .inl (.inr (0, (0, 0))), []),
  .inr (0, 6, .inl (.inr (0, (0, 0))), []),
  .inr (0, 6, .inl (.inr (0, (0, 0))), []),
  .inr (1, 48, .inl (.inr (0, (0, 0))), []),
  .inr (0, 4, .inl (.inr (0, (0, 0))), []),
  .inr (0, 12, .inl (.inr (0, (0, 0))), []),
  .inr (0, 13, .inl (.inr (0, (0, 0))), []),
  .inr (0, 18, .inl (.inr (0, (0, 0))), []),
  .inr (0, 18, .inl (.inr (0, (0, 0))), []),
  .inr (1, 12, .inl (.inr (0, (0, 0))), []),
  .inr (1, 12, .inl (.inr (0, (0, 0))), []),
  .inr (0, 13, .inl (.inr (0, (0, 0))), []),
  .inr (0, 12, .inl (.inr (0, (0, 0))), []),
  .inr (0, 36, .inl (.inr (0, (0, 0))), []),
  .inr (0, 8, .inl (.inr (0, (0, 0))), [])]
def rxZ0 : rx_Z := (rxI0, [], [], 0, 0, 0, [(0, .inr (2, (0, 0)))], [])
def rxZ15 : rx_Z := (rxI0, [], rxH, 522, 48932, 15, [(1, .inl (some 0)), (0, .inr (2, (0, 0)))], [.inl (some 480)])
end
section
def rx_dV : DecidableEq rx_V := inferInstanceAs (DecidableEq (Option Nat ⊕ (Nat × (Nat × Int))))
def rx_dX : DecidableEq rx_X := @instDecidableEqSum _ _ rx_dV (inferInstanceAs (DecidableEq (Nat × Int × Int)))
def rx_dO : DecidableEq (List (Nat × rx_V)) := @instDecidableEqList _ (@instDecidableEqProd _ _ inferInstance rx_dV)
def rx_dC : DecidableEq rx_C := @instDecidableEqSum _ _ (@instDecidableEqProd _ _ inferInstance (@instDecidableEqList _ rx_dX)) (@instDecidableEqProd _ _ inferInstance (@instDecidableEqProd _ _ inferInstance (@instDecidableEqProd _ _ rx_dX rx_dO)))
def rx_dZ : DecidableEq rx_Z := @instDecidableEqProd _ _ (inferInstanceAs (DecidableEq (List (Int × Int)))) (@instDecidableEqProd _ _ (inferInstanceAs (DecidableEq (List (Nat × (Nat × Int) × (Nat × Int))))) (@instDecidableEqProd _ _ (@instDecidableEqList _ rx_dC) (@instDecidableEqProd _ _ inferInstance (@instDecidableEqProd _ _ inferInstance (@instDecidableEqProd _ _ inferInstance (@instDecidableEqProd _ _ rx_dO (@instDecidableEqList _ rx_dV)))))))
def rx_isZ (o : Option (List rx_Z)) (z : rx_Z) : Bool := match o with
  | some [w] => @decide (w = z) (rx_dZ w z)
  | _ => false
theorem rx_isZ_ok {o : Option (List rx_Z)} {z : rx_Z} (h : rx_isZ o z = true) : o = some [z] := by
  unfold rx_isZ at h
  split at h
  · rename_i w
    rw [@of_decide_eq_true _ (rx_dZ w z) h]
  · cases h
theorem rx_start : rx_isZ (rx_sg rxCT (fun pc => Nat.beq pc 15) 10000 12 176 rxZ0) rxZ15 = true := by decide +kernel
end
section
/-! THE CASES: one a word of the script -/
noncomputable def rxCs : Option (List rx_Z) := rx_sg rxCT (fun pc => Nat.ble 240 pc) 200 12 176 rxZ15
def rxEnds (o : Option (List rx_End)) : Bool := match o with
  | some Es => Es.all (fun E => match E.2.2.2 with
    | some (.inr (0, (0, 1))) => true
    | _ => false)
  | none => false
noncomputable def rxCase (k : Nat) : Bool := match rxCs with
  | some zs => match rx_nth zs k with
    | some z => rxEnds (rx_ex2 rxCT 4000 12 176 z)
    | none => true
  | none => false
theorem rx_cases_n : (match rxCs with
  | some zs => Nat.ble zs.length 52
  | none => false) = true := by decide +kernel
end
section
theorem rx_case_0 : rxCase 0 = true := by decide +kernel
theorem rx_case_1 : rxCase 1 = true := by decide +kernel
theorem rx_case_2 : rxCase 2 = true := by decide +kernel
theorem rx_case_3 : rxCase 3 = true := by decide +kernel
theorem rx_case_4 : rxCase 4 = true := by decide +kernel
theorem rx_case_5 : rxCase 5 = true := by decide +kernel
theorem rx_case_6 : rxCase 6 = true := by decide +kernel
theorem rx_case_7 : rxCase 7 = true := by decide +kernel
theorem rx_case_8 : rxCase 8 = true := by decide +kernel
theorem rx_case_9 : rxCase 9 = true := by decide +kernel
theorem rx_case_10 : rxCase 10 = true := by decide +kernel
theorem rx_case_11 : rxCase 11 = true := by decide +kernel
theorem rx_case_12 : rxCase 12 = true := by decide +kernel
end
section
theorem rx_case_13 : rxCase 13 = true := by decide +kernel
theorem rx_case_14 : rxCase 14 = true := by decide +kernel
theorem rx_case_15 : rxCase 15 = true := by decide +kernel
theorem rx_case_16 : rxCase 16 = true := by decide +kernel
theorem rx_case_17 : rxCase 17 = true := by decide +kernel
theorem rx_case_18 : rxCase 18 = true := by decide +kernel
theorem rx_case_19 : rxCase 19 = true := by decide +kernel
theorem rx_case_20 : rxCase 20 = true := by decide +kernel
theorem rx_case_21 : rxCase 21 = true := by decide +kernel
theorem rx_case_22 : rxCase 22 = true := by decide +kernel
theorem rx_case_23 : rxCase 23 = true := by decide +kernel
theorem rx_case_24 : rxCase 24 = true := by decide +kernel
theorem rx_case_25 : rxCase 25 = true := by decide +kernel
end
section
theorem rx_case_26 : rxCase 26 = true := by decide +kernel
theorem rx_case_27 : rxCase 27 = true := by decide +kernel
theorem rx_case_28 : rxCase 28 = true := by decide +kernel
theorem rx_case_29 : rxCase 29 = true := by decide +kernel
theorem rx_case_30 : rxCase 30 = true := by decide +kernel
theorem rx_case_31 : rxCase 31 = true := by decide +kernel
theorem rx_case_32 : rxCase 32 = true := by decide +kernel
theorem rx_case_33 : rxCase 33 = true := by decide +kernel
theorem rx_case_34 : rxCase 34 = true := by decide +kernel
theorem rx_case_35 : rxCase 35 = true := by decide +kernel
theorem rx_case_36 : rxCase 36 = true := by decide +kernel
theorem rx_case_37 : rxCase 37 = true := by decide +kernel
theorem rx_case_38 : rxCase 38 = true := by decide +kernel
end
section
theorem rx_case_39 : rxCase 39 = true := by decide +kernel
theorem rx_case_40 : rxCase 40 = true := by decide +kernel
theorem rx_case_41 : rxCase 41 = true := by decide +kernel
theorem rx_case_42 : rxCase 42 = true := by decide +kernel
theorem rx_case_43 : rxCase 43 = true := by decide +kernel
theorem rx_case_44 : rxCase 44 = true := by decide +kernel
theorem rx_case_45 : rxCase 45 = true := by decide +kernel
theorem rx_case_46 : rxCase 46 = true := by decide +kernel
theorem rx_case_47 : rxCase 47 = true := by decide +kernel
theorem rx_case_48 : rxCase 48 = true := by decide +kernel
theorem rx_case_49 : rxCase 49 = true := by decide +kernel
theorem rx_case_50 : rxCase 50 = true := by decide +kernel
theorem rx_case_51 : rxCase 51 = true := by decide +kernel
end
