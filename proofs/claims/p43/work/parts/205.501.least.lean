/-! LEAST: the deeds ROW by ROW, the tree of their STATES, what its leaves could say -/
def ldt (n : Int) (f : Int → Int) : Int → Int := fun j => if 0 ≤ j ∧ j < n then f j else 0
def ldu (f : Int → Int) (i v : Int) : Int → Int := fun j => if j = i then v else f j
theorem ldt_at {n j : Int} {f : Int → Int} (h0 : 0 ≤ j) (h1 : j < n) : ldt n f j = f j := if_pos ⟨h0, h1⟩
theorem ldt_cg {n : Int} {f g : Int → Int} (h : ∀ j : Int, 0 ≤ j → j < n → f j = g j) : ldt n f = ldt n g := by
  funext j
  unfold ldt
  by_cases hj : 0 ≤ j ∧ j < n
  · rw [if_pos hj, if_pos hj, h j hj.1 hj.2]
  · rw [if_neg hj, if_neg hj]
theorem ldu_at {f : Int → Int} {i v : Int} : ldu f i v i = v := if_pos rfl
theorem ldu_ne {f : Int → Int} {i j v : Int} (h : j ≠ i) : ldu f i v j = f j := if_neg h
theorem ldt_up {n i v : Int} {f : Int → Int} (h0 : 0 ≤ i) (h1 : i < n) : ldt n (ldu f i v) = ldu (ldt n f) i v := by
  funext j
  by_cases hj : j = i
  · subst hj
    rw [ldt_at h0 h1, ldu_at, ldu_at]
  · rw [ldu_ne hj]
    unfold ldt
    rw [ldu_ne hj]
theorem ldt_push {k v : Int} {f : Int → Int} (h0 : 0 ≤ k) : ldt (k + 1) (ldu f k v) = ldu (ldt k f) k v := by
  funext j
  by_cases hj : j = k
  · subst hj
    rw [ldt_at h0 (by omega), ldu_at, ldu_at]
  · rw [ldu_ne hj]
    unfold ldt
    rw [ldu_ne hj]
    by_cases h : 0 ≤ j ∧ j < k
    · rw [if_pos h, if_pos (by omega)]
    · rw [if_neg h, if_neg (by omega)]
theorem ldt_0 {f g : Int → Int} : ldt 0 f = ldt 0 g := ldt_cg fun j h0 h1 => by omega
theorem ldu_bx {S : Nat → Int → Int} {p : Nat} {i v : Int} : bx_up S p i v p = ldu (S p) i v := by
  funext j
  by_cases h : j = i
  · subst h
    rw [bx_up_at, ldu_at]
  · rw [bx_up_ne (fun q => h q.2), ldu_ne h]
theorem ldu_id {f : Int → Int} {i v : Int} (h : f i = v) : ldu f i v = f := by
  funext j
  by_cases hj : j = i
  · subst hj
    rw [ldu_at, h]
  · rw [ldu_ne hj]
theorem ldu_ldu {f : Int → Int} {i v w : Int} : ldu (ldu f i v) i w = ldu f i w := by
  funext j
  by_cases hj : j = i
  · subst hj
    rw [ldu_at, ldu_at]
  · rw [ldu_ne hj, ldu_ne hj, ldu_ne hj]
/-- a WORD as bits; at a HOLE all ten -/
def ldw (x : Int) : Nat := if 0 ≤ x ∧ x ≤ 9 then 2 ^ x.toNat else 1023
theorem ldw_le {x : Int} : ldw x ≤ 1023 := by
  unfold ldw
  by_cases h : 0 ≤ x ∧ x ≤ 9
  · rw [if_pos h]
    have : x.toNat ≤ 9 := by omega
    exact Nat.le_trans (Nat.pow_le_pow_right (by omega) this) (by decide)
  · rw [if_neg h]
    exact Nat.le_refl _
def ldg (m cue st : Int) (a : Int → Int) (x : Int) : Nat := if x < m ∧ (st = -1 ∨ st = x) then ldw (a (6 * x + cue)) else 0
def lds (z : Int) (C g p : Int → Int) : Int := if z < 0 then 0 else g (6 * p z + C z)
def ldl (m cue z : Int) (C a g p : Int → Int) : Nat := (ldg m cue (lds z C g p) a 0 ||| ldg m cue (lds z C g p) a 1) ||| ldg m cue (lds z C g p) a 2
theorem ldor_le {x y : Nat} (hx : x ≤ 1023) (hy : y ≤ 1023) : x ||| y ≤ 1023 := by
  have := Nat.or_lt_two_pow (n := 10) (x := x) (y := y) (by omega) (by omega)
  omega
theorem ldg_le {m cue st x : Int} {a : Int → Int} : ldg m cue st a x ≤ 1023 := by
  unfold ldg
  split
  · exact ldw_le
  · omega
theorem ldl_le {m cue z : Int} {C a g p : Int → Int} : ldl m cue z C a g p ≤ 1023 := ldor_le (ldor_le ldg_le ldg_le) ldg_le
/-- what is given: how many STATES, how many deeds, their cues, words, rows, what a leaf tells -/
abbrev ldD : Type := Int × Int × (Int → Int) × (Int → Int) × (Int → Int) × ((Int → Int) → (Int → Int) → (Int → Int) → Nat)
abbrev ldE (D : ldD) (k : Int) : Prop := k + 1 = D.2.1 ∨ D.2.2.2.2.1 (k + 1) ≠ D.2.2.2.2.1 k
def ldT (D : ldD) : Nat → Int → Int → Int → (Int → Int) → (Int → Int) → (Int → Int) → List Nat
  | 0, _, _, _, a, g, p => [D.2.2.2.2.2 a g p]
  | i + 1, k, s, t, a, g, p =>
    if a (6 * s + D.2.2.1 k) ≠ -1 ∧ a (6 * s + D.2.2.1 k) ≠ D.2.2.2.1 k then []
    else if ldE D k ∨ g (6 * s + D.2.2.1 k) ≠ -1 then ldT D i (k + 1) (if ldE D k then 0 else g (6 * s + D.2.2.1 k)) t (ldu a (6 * s + D.2.2.1 k) (D.2.2.2.1 k)) g (ldu p k s)
    else (if 0 ≤ t ∧ 0 < D.1 then ldT D i (k + 1) 0 (max t (0 + 1)) (ldu a (6 * s + D.2.2.1 k) (D.2.2.2.1 k)) (ldu g (6 * s + D.2.2.1 k) 0) (ldu p k s) else []) ++
      ((if 1 ≤ t ∧ 1 < D.1 then ldT D i (k + 1) 1 (max t (1 + 1)) (ldu a (6 * s + D.2.2.1 k) (D.2.2.2.1 k)) (ldu g (6 * s + D.2.2.1 k) 1) (ldu p k s) else []) ++
      (if 2 ≤ t ∧ 2 < D.1 then ldT D i (k + 1) 2 (max t (2 + 1)) (ldu a (6 * s + D.2.2.1 k) (D.2.2.2.1 k)) (ldu g (6 * s + D.2.2.1 k) 2) (ldu p k s) else []))
/-- on to a next STATE x; behind the check of the word -/
def ldX (D : ldD) (i : Nat) (k r t : Int) (a g p : Int → Int) (x : Int) : List Nat := if x ≤ t ∧ x < D.1 then ldT D i (k + 1) x (max t (x + 1)) a (ldu g r x) p else []
def ldG (D : ldD) (i : Nat) (k r t : Int) (a g p : Int → Int) : List Nat :=
  if ldE D k ∨ g r ≠ -1 then ldT D i (k + 1) (if ldE D k then 0 else g r) t a g p else ldX D i k r t a g p 0 ++ (ldX D i k r t a g p 1 ++ ldX D i k r t a g p 2)
theorem ldT_s {D : ldD} {i : Nat} {k s t : Int} {a g p : Int → Int} : ldT D (i + 1) k s t a g p = if a (6 * s + D.2.2.1 k) ≠ -1 ∧ a (6 * s + D.2.2.1 k) ≠ D.2.2.2.1 k then [] else ldG D i k (6 * s + D.2.2.1 k) t (ldu a (6 * s + D.2.2.1 k) (D.2.2.2.1 k)) g (ldu p k s) := rfl
theorem ldX_len {D : ldD} {i : Nat} {k r t x : Int} {a g p : Int → Int} (ih : ∀ (k s t : Int) (a g p : Int → Int), (ldT D i k s t a g p).length ≤ 3 ^ i) : (ldX D i k r t a g p x).length ≤ 3 ^ i := by
  unfold ldX
  split
  · exact ih _ _ _ _ _ _
  · exact Nat.zero_le _
theorem ldT_len {D : ldD} : ∀ (i : Nat) (k s t : Int) (a g p : Int → Int), (ldT D i k s t a g p).length ≤ 3 ^ i
  | 0, _, _, _, _, _, _ => Nat.le_refl _
  | i + 1, k, s, t, a, g, p => by
    have ih := ldT_len (D := D) i
    have e3 : 3 ^ (i + 1) = 3 ^ i * 3 := by rw [Nat.pow_succ]
    rw [ldT_s, e3]
    split
    · exact Nat.zero_le _
    · unfold ldG
      split
      · have := ih (k + 1) (if ldE D k then 0 else g (6 * s + D.2.2.1 k)) t (ldu a (6 * s + D.2.2.1 k) (D.2.2.2.1 k)) g (ldu p k s)
        omega
      · have x0 := ldX_len (k := k) (r := 6 * s + D.2.2.1 k) (t := t) (x := 0) (a := ldu a (6 * s + D.2.2.1 k) (D.2.2.2.1 k)) (g := g) (p := ldu p k s) ih
        have x1 := ldX_len (k := k) (r := 6 * s + D.2.2.1 k) (t := t) (x := 1) (a := ldu a (6 * s + D.2.2.1 k) (D.2.2.2.1 k)) (g := g) (p := ldu p k s) ih
        have x2 := ldX_len (k := k) (r := 6 * s + D.2.2.1 k) (t := t) (x := 2) (a := ldu a (6 * s + D.2.2.1 k) (D.2.2.2.1 k)) (g := g) (p := ldu p k s) ih
        rw [List.length_append, List.length_append]
        omega
theorem ldT_lenf {m n : Int} {C W R : Int → Int} {f f' : (Int → Int) → (Int → Int) → (Int → Int) → Nat} : ∀ (i : Nat) (k s t : Int) (a g p : Int → Int), (ldT (m, n, C, W, R, f) i k s t a g p).length = (ldT (m, n, C, W, R, f') i k s t a g p).length
  | 0, _, _, _, _, _, _ => rfl
  | i + 1, k, s, t, a, g, p => by
    have ih := ldT_lenf (m := m) (n := n) (C := C) (W := W) (R := R) (f := f) (f' := f') i
    have hx : ∀ (a g p : Int → Int) (r x : Int), (ldX (m, n, C, W, R, f) i k r t a g p x).length = (ldX (m, n, C, W, R, f') i k r t a g p x).length := fun a g p r x => by
      unfold ldX
      show (if x ≤ t ∧ x < m then _ else _ : List Nat).length = (if x ≤ t ∧ x < m then _ else _ : List Nat).length
      split
      · exact ih _ _ _ _ _ _
      · rfl
    rw [ldT_s, ldT_s]
    show (if a (6 * s + C k) ≠ -1 ∧ a (6 * s + C k) ≠ W k then [] else ldG (m, n, C, W, R, f) i k (6 * s + C k) t (ldu a (6 * s + C k) (W k)) g (ldu p k s) : List Nat).length = (if a (6 * s + C k) ≠ -1 ∧ a (6 * s + C k) ≠ W k then [] else ldG (m, n, C, W, R, f') i k (6 * s + C k) t (ldu a (6 * s + C k) (W k)) g (ldu p k s) : List Nat).length
    by_cases h : a (6 * s + C k) ≠ -1 ∧ a (6 * s + C k) ≠ W k
    · rw [if_pos h, if_pos h]
    · rw [if_neg h, if_neg h]
      unfold ldG
      by_cases h2 : ldE (m, n, C, W, R, f) k ∨ g (6 * s + C k) ≠ -1
      · rw [if_pos h2, if_pos (show ldE (m, n, C, W, R, f') k ∨ g (6 * s + C k) ≠ -1 from h2)]
        exact ih _ _ _ _ _ _
      · rw [if_neg h2, if_neg (show ¬ (ldE (m, n, C, W, R, f') k ∨ g (6 * s + C k) ≠ -1) from h2), List.length_append, List.length_append, List.length_append, List.length_append, hx, hx, hx]
theorem ldT_le {D : ldD} (hf : ∀ a g p : Int → Int, D.2.2.2.2.2 a g p ≤ 1023) : ∀ (i : Nat) (k s t : Int) (a g p : Int → Int) (x : Nat), x ∈ ldT D i k s t a g p → x ≤ 1023
  | 0, _, _, _, a, g, p, x, h => by
    have e : x = D.2.2.2.2.2 a g p := List.mem_singleton.mp h
    rw [e]
    exact hf a g p
  | i + 1, k, s, t, a, g, p, x, h => by
    have ih := ldT_le hf i
    have hx : ∀ (a g p : Int → Int) (r y : Int), x ∈ ldX D i k r t a g p y → x ≤ 1023 := fun a g p r y hy => by
      unfold ldX at hy
      split at hy
      · exact ih _ _ _ _ _ _ x hy
      · cases hy
    rw [ldT_s] at h
    split at h
    · cases h
    · unfold ldG at h
      split at h
      · exact ih _ _ _ _ _ _ x h
      · rcases List.mem_append.mp h with h | h
        · exact hx _ _ _ _ _ h
        · rcases List.mem_append.mp h with h | h
          · exact hx _ _ _ _ _ h
          · exact hx _ _ _ _ _ h
/-- what all leaves could say -/
def ldB (b : Nat) (T : List Nat) : Nat := T.foldl (fun x y => x ||| y) b
theorem ldB_app {b : Nat} {T T' : List Nat} : ldB b (T ++ T') = ldB (ldB b T) T' := List.foldl_append
theorem ldB_le : ∀ (T : List Nat) (b : Nat), b ≤ 1023 → (∀ x, x ∈ T → x ≤ 1023) → ldB b T ≤ 1023
  | [], _, hb, _ => hb
  | x :: T, b, hb, h => ldB_le T (b ||| x) (ldor_le hb (h x List.mem_cons_self)) fun y hy => h y (List.mem_cons_of_mem _ hy)
theorem ldor_full {x : Nat} (h : x ≤ 1023) : 1023 ||| x = 1023 := (by decide +kernel : ∀ x : Fin 1024, 1023 ||| x.1 = 1023) ⟨x, by omega⟩
theorem ldB_full : ∀ (T : List Nat), (∀ x, x ∈ T → x ≤ 1023) → ldB 1023 T = 1023
  | [], _ => rfl
  | x :: T, h => by
    show ldB (1023 ||| x) T = 1023
    rw [ldor_full (h x List.mem_cons_self)]
    exact ldB_full T fun y hy => h y (List.mem_cons_of_mem _ hy)
/-- what a walk of some leaves leaves: whether one was enough, the row that is asked for; ways and bits ahead, behind -/
def ldO (one ask : Int) (T : List Nat) (w0 b0 w b : Int) : Prop :=
  w0 ≤ w ∧ w ≤ w0 + T.length ∧ (one ≠ 0 → (0 < w ↔ 0 < w0 ∨ T ≠ [])) ∧ (one = 0 → ask < 0 → w = w0 + T.length) ∧ (ask < 0 → b = b0) ∧ (0 ≤ ask → b = (ldB b0.toNat T : Nat))
theorem ldO_nil {one ask w b : Int} (h : 0 ≤ b) : ldO one ask [] w b w b := ⟨Int.le_refl _, by simp, fun _ => ⟨fun q => Or.inl q, fun q => q.elim id fun q => absurd rfl q⟩, fun _ _ => by simp, fun _ => rfl, fun _ => by show b = (b.toNat : Int); omega⟩
theorem ldO_app {one ask w0 b0 w1 b1 w b : Int} {T T' : List Nat} (h : ldO one ask T w0 b0 w1 b1) (h' : ldO one ask T' w1 b1 w b) : ldO one ask (T ++ T') w0 b0 w b := by
  obtain ⟨p1, p2, p3, p4, p5, p6⟩ := h
  obtain ⟨q1, q2, q3, q4, q5, q6⟩ := h'
  have hl : (T ++ T').length = T.length + T'.length := List.length_append
  refine ⟨by omega, by omega, fun h => ?_, fun h1 h2 => ?_, fun h => ?_, fun h => ?_⟩
  · have e : T ++ T' ≠ [] ↔ T ≠ [] ∨ T' ≠ [] := by cases T <;> simp
    rw [q3 h, p3 h, e]
    constructor
    · rintro ((c | c) | c)
      · exact Or.inl c
      · exact Or.inr (Or.inl c)
      · exact Or.inr (Or.inr c)
    · rintro (c | c | c)
      · exact Or.inl (Or.inl c)
      · exact Or.inl (Or.inr c)
      · exact Or.inr c
  · have a := p4 h1 h2
    have b := q4 h1 h2
    omega
  · rw [q5 h, p5 h]
  · rw [q6 h, p6 h, ldB_app]
    rfl
theorem ldO_one {one ask w b : Int} {T : List Nat} (h1 : one ≠ 0) (h2 : 0 < w) (h3 : ask < 0) : ldO one ask T w b w b := ⟨Int.le_refl _, by omega, fun _ => ⟨fun q => Or.inl q, fun _ => h2⟩, fun q => absurd q h1, fun _ => rfl, fun q => by omega⟩
theorem ldO_full {one ask w : Int} {T : List Nat} (h1 : 0 ≤ ask) (h2 : one ≠ 0 → ask < 0) (h : ∀ x, x ∈ T → x ≤ 1023) : ldO one ask T w 1023 w 1023 := ⟨Int.le_refl _, by omega, fun q => by have := h2 q; omega, fun _ q => by omega, fun q => by omega, fun _ => by show (1023 : Int) = (ldB 1023 T : Nat); rw [ldB_full T h]; rfl⟩
theorem ldO_leaf {one ask w b : Int} {x : Nat} (h0 : 0 ≤ w) : ldO one ask [x] w b (w + 1) (if 0 ≤ ask then ((b.toNat ||| x : Nat) : Int) else b) := by
  refine ⟨by omega, by simp, fun _ => ⟨fun _ => Or.inr (by simp), fun _ => by omega⟩, fun _ _ => by simp, fun h => ?_, fun h => ?_⟩
  · rw [if_neg (by omega)]
  · rw [if_pos h]
    rfl
/-- a loop over the next STATES ends: the ones beyond give nothing -/
theorem ldX_nil {D : ldD} {i : Nat} {k r t x : Int} {a g p : Int → Int} (h : t < x ∨ D.1 ≤ x) : ldX D i k r t a g p x = [] := by
  unfold ldX
  rw [if_neg (by omega)]
/-- the last deed of a row -/
def ldZ (n : Int) (R : Int → Int) (row z : Int) : Prop := (z = -1 ∧ ∀ i : Int, 0 ≤ i → i < n → R i ≠ row) ∨ (0 ≤ z ∧ z < n ∧ R z = row ∧ ∀ i : Int, z < i → i < n → R i ≠ row)
theorem ldZ_eq {n row z z' : Int} {R : Int → Int} (h : ldZ n R row z) (h' : ldZ n R row z') : z = z' := by
  rcases h with ⟨a1, a2⟩ | ⟨a1, a2, a3, a4⟩
  · rcases h' with ⟨b1, b2⟩ | ⟨b1, b2, b3, b4⟩
    · omega
    · exact absurd b3 (a2 z' b1 b2)
  · rcases h' with ⟨b1, b2⟩ | ⟨b1, b2, b3, b4⟩
    · exact absurd a3 (b2 z a1 a2)
    · rcases Int.lt_trichotomy z z' with h | h | h
      · exact absurd b3 (a4 z' h b2)
      · exact h
      · exact absurd a3 (b4 z h a2)
/-- no last one of its row: then none -/
theorem ldZ_no {D : ldD} {row lo : Int} (h : ∀ i : Int, lo ≤ i → i < D.2.1 → D.2.2.2.2.1 i = row → ¬ ldE D i) : ∀ (j : Nat) (i : Int), lo ≤ i → i < D.2.1 → (D.2.1 - i).toNat ≤ j → D.2.2.2.2.1 i ≠ row
  | 0, i, _, h1, h2 => by omega
  | j + 1, i, h0, h1, h2 => fun e => by
    have q := h i h0 h1 e
    have q1 : ¬ i + 1 = D.2.1 := fun c => q (Or.inl c)
    have q2 : D.2.2.2.2.1 (i + 1) = D.2.2.2.2.1 i := Classical.byContradiction fun c => q (Or.inr c)
    exact ldZ_no h j (i + 1) (by omega) (by omega) (by omega) (q2.trans e)
/-- the deeds ROW by ROW -/
def ldI (r : Int → Int) (q : Int) : Nat → List Int
  | 0 => []
  | k + 1 => ldI r q k ++ (if r k = q then [(k : Int)] else [])
def ldQ (r : Int → Int) (n : Nat) : Nat → List Int
  | 0 => []
  | q + 1 => ldQ r n q ++ ldI r q n
theorem ldI_mem {r : Int → Int} {q : Int} : ∀ (k : Nat) (x : Int), x ∈ ldI r q k → 0 ≤ x ∧ x < k ∧ r x = q
  | 0, _, h => by cases h
  | k + 1, x, h => by
    rcases List.mem_append.mp h with h | h
    · have := ldI_mem k x h
      omega
    · split at h
      · rename_i e
        have := List.mem_singleton.mp h
        subst this
        exact ⟨by omega, by omega, e⟩
      · cases h
theorem ldQ_mem {r : Int → Int} {n : Nat} : ∀ (q : Nat) (x : Int), x ∈ ldQ r n q → 0 ≤ x ∧ x < n ∧ 0 ≤ r x ∧ r x < q
  | 0, _, h => by cases h
  | q + 1, x, h => by
    rcases List.mem_append.mp h with h | h
    · have := ldQ_mem q x h
      omega
    · have := ldI_mem n x h
      omega
theorem ldQ_len {r : Int → Int} : ∀ (n : Nat), (∀ j : Int, 0 ≤ j → j < n → 0 ≤ r j ∧ r j < 4) → (ldI r 0 n).length + (ldI r 1 n).length + (ldI r 2 n).length + (ldI r 3 n).length = n
  | 0, _ => rfl
  | n + 1, h => by
    have ih := ldQ_len n fun j h0 h1 => h j h0 (by omega)
    have hn := h n (by omega) (by omega)
    have e : ∀ q : Int, (ldI r q (n + 1)).length = (ldI r q n).length + (if r n = q then 1 else 0) := fun q => by
      show (ldI r q n ++ _).length = _
      rw [List.length_append]
      split <;> rfl
    rw [e 0, e 1, e 2, e 3]
    have hq : r n = 0 ∨ r n = 1 ∨ r n = 2 ∨ r n = 3 := by omega
    rcases hq with q | q | q | q <;> rw [q] <;> simp <;> omega
theorem ldQ_len4 {r : Int → Int} {n : Nat} (h : ∀ j : Int, 0 ≤ j → j < n → 0 ≤ r j ∧ r j < 4) : (ldQ r n 4).length = n := by
  have := ldQ_len n h
  show (((([] ++ ldI r ((0 : Nat) : Int) n) ++ ldI r ((1 : Nat) : Int) n) ++ ldI r ((2 : Nat) : Int) n) ++ ldI r ((3 : Nat) : Int) n).length = n
  rw [List.length_append, List.length_append, List.length_append, List.nil_append]
  exact this
theorem ldI_cg {r r' : Int → Int} {q : Int} : ∀ (k : Nat), (∀ j : Int, 0 ≤ j → j < k → r j = r' j) → ldI r q k = ldI r' q k
  | 0, _ => rfl
  | k + 1, h => by
    show ldI r q k ++ _ = ldI r' q k ++ _
    rw [ldI_cg k fun j h0 h1 => h j h0 (by omega), h k (by omega) (by omega)]
/-- a list's entries as what a row holds -/
def ldH (L : List Int) (F : Int → Int → Prop) : Prop := ∀ (i : Nat) (x : Int), L[i]? = some x → F i x
theorem ldH_nil {F : Int → Int → Prop} : ldH [] F := fun i x h => by cases h
theorem ldH_app {L : List Int} {F F' : Int → Int → Prop} {y : Int} (h : ldH L F) (hF : ∀ (i : Nat) (x : Int), i < L.length → F i x → F' i x) (hy : F' L.length y) : ldH (L ++ [y]) F' := by
  intro i x hx
  by_cases hi : i < L.length
  · rw [List.getElem?_append_left hi] at hx
    exact hF i x hi (h i x hx)
  · rw [List.getElem?_append_right (by omega)] at hx
    have hi2 : i - L.length = 0 := by
      cases hc : i - L.length with
      | zero => rfl
      | succ j => rw [hc] at hx; cases hx
    rw [hi2] at hx
    have e : y = x := Option.some.inj hx
    rw [← e, show i = L.length by omega]
    exact hy
/-- what a row tells of the deeds in their order -/
def ldF (L : List Int) (f : Int → Int) : Int → Int := fun k => f (L.getD k.toNat 0)
theorem ldF_at {L : List Int} {f : Int → Int} {k : Int} (h0 : 0 ≤ k) (h1 : k < L.length) : ∃ x : Int, L[k.toNat]? = some x ∧ ldF L f k = f x := by
  have hk : k.toNat < L.length := by omega
  refine ⟨L[k.toNat], List.getElem?_eq_getElem hk, ?_⟩
  unfold ldF
  rw [List.getD_eq_getElem?_getD, List.getElem?_eq_getElem hk]
  rfl
/-- the whole, of a town's deeds: n, rows, cues, words -/
def ldDs (n : Int) (r c w : Int → Int) (m : Int) (f : (Int → Int) → (Int → Int) → (Int → Int) → Nat) : ldD :=
  (m, n, ldt n (ldF (ldQ (ldt n r) n.toNat 4) c), ldt n (ldF (ldQ (ldt n r) n.toNat 4) w), ldt n (ldF (ldQ (ldt n r) n.toNat 4) r), f)
def ldA (D : ldD) : List Nat := ldT D D.2.1.toNat 0 0 1 (ldt 18 fun _ => -1) (ldt 18 fun _ => -1) (ldt 0 fun _ => 0)
/-- in how many ways by at most m STATES -/
def ldN (n : Int) (r c w : Int → Int) (m : Int) : Nat := (ldA (ldDs n r c w m fun _ _ _ => 0)).length
/-- the fewest STATES -/
def ldW (N : Int → Nat) (z : Int) : Prop := (z = -1 ∧ N 1 = 0 ∧ N 2 = 0 ∧ N 3 = 0) ∨ (z = 1 ∧ N 1 ≠ 0) ∨ (z = 2 ∧ N 1 = 0 ∧ N 2 ≠ 0) ∨ (z = 3 ∧ N 1 = 0 ∧ N 2 = 0 ∧ N 3 ≠ 0)
theorem ldW_eq {N : Int → Nat} {z z' : Int} (h : ldW N z) (h' : ldW N z') : z = z' := by
  unfold ldW at h h'
  omega
/-- what could be said at a cue behind a row -/
def ldU (n : Int) (r c w : Int → Int) (m cue z : Int) : Nat := ldB 0 (ldA (ldDs n r c w m (ldl m cue z (ldt n (ldF (ldQ (ldt n r) n.toNat 4) c)))))
theorem ldF_cg {n : Int} {r c c' : Int → Int} (h : ∀ j : Int, 0 ≤ j → j < n → c j = c' j) : ldt n (ldF (ldQ r n.toNat 4) c) = ldt n (ldF (ldQ r n.toNat 4) c') := ldt_cg fun k h0 h1 => by
  unfold ldF
  by_cases hk : k.toNat < (ldQ r n.toNat 4).length
  · rw [List.getD_eq_getElem?_getD, List.getElem?_eq_getElem hk]
    have := ldQ_mem 4 _ (List.getElem_mem hk)
    exact h ((ldQ r n.toNat 4)[k.toNat]) this.1 (by omega)
  · rw [List.getD_eq_getElem?_getD, List.getElem?_eq_none (by omega)]
    exact h 0 (by omega) (by omega)
theorem ldDs_cg {n m : Int} {r c w r' c' w' : Int → Int} {f : (Int → Int) → (Int → Int) → (Int → Int) → Nat} (hr : ∀ j : Int, 0 ≤ j → j < n → r j = r' j) (hc : ∀ j : Int, 0 ≤ j → j < n → c j = c' j) (hw : ∀ j : Int, 0 ≤ j → j < n → w j = w' j) : ldDs n r c w m f = ldDs n r' c' w' m f := by
  unfold ldDs
  rw [ldt_cg hr, ldF_cg hc, ldF_cg hw, ldF_cg hr]
theorem ldN_cg {n m : Int} {r c w r' c' w' : Int → Int} (hr : ∀ j : Int, 0 ≤ j → j < n → r j = r' j) (hc : ∀ j : Int, 0 ≤ j → j < n → c j = c' j) (hw : ∀ j : Int, 0 ≤ j → j < n → w j = w' j) : ldN n r c w m = ldN n r' c' w' m := by
  unfold ldN
  rw [ldDs_cg hr hc hw]
theorem ldU_cg {n m cue z : Int} {r c w r' c' w' : Int → Int} (hr : ∀ j : Int, 0 ≤ j → j < n → r j = r' j) (hc : ∀ j : Int, 0 ≤ j → j < n → c j = c' j) (hw : ∀ j : Int, 0 ≤ j → j < n → w j = w' j) : ldU n r c w m cue z = ldU n r' c' w' m cue z := by
  unfold ldU
  rw [ldDs_cg hr hc hw, ldt_cg hr, ldF_cg hc]
