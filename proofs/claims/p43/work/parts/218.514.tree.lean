/-! LEAST, the reference: what is left of the tree -/
theorem ldZ_ex {R : Int → Int} {row : Int} : ∀ n : Nat, ∃ z : Int, ldZ (n : Int) R row z
  | 0 => ⟨-1, Or.inl ⟨rfl, fun i a b => by omega⟩⟩
  | n + 1 => by
    obtain ⟨z, hz⟩ := ldZ_ex (R := R) (row := row) n
    by_cases h : R n = row
    · exact ⟨n, ldZ_last (by omega) h⟩
    · exact ⟨z, ldZ_push (x := R n) (by omega) hz (fun _ _ => rfl) rfl h⟩
theorem ldt_ext {k : Int} {f : Int → Int} (h0 : 0 ≤ k) : ldt (k + 1) f = ldu (ldt k f) k (f k) := by
  rw [← ldt_push h0, ldu_id rfl]
def ldC1 (D : ldD) (i : Nat) (k s t : Int) (a g p : Int → Int) (x : Int) : List Nat :=
  if a (6 * s + D.2.2.1 k) ≠ -1 ∧ a (6 * s + D.2.2.1 k) ≠ D.2.2.2.1 k then [] else if ldE D k ∨ g (6 * s + D.2.2.1 k) ≠ -1 then (if x = 0 then ldT D i (k + 1) (if ldE D k then 0 else g (6 * s + D.2.2.1 k)) t (ldu a (6 * s + D.2.2.1 k) (D.2.2.2.1 k)) g (ldu p k s) else []) else ldX D i k (6 * s + D.2.2.1 k) t (ldu a (6 * s + D.2.2.1 k) (D.2.2.2.1 k)) g (ldu p k s) x
theorem ldT_C {D : ldD} {i : Nat} {k s t : Int} {a g p : Int → Int} : ldT D (i + 1) k s t a g p = ldC1 D i k s t a g p 0 ++ (ldC1 D i k s t a g p 1 ++ ldC1 D i k s t a g p 2) := by
  rw [ldT_s]
  unfold ldC1 ldG
  by_cases h : a (6 * s + D.2.2.1 k) ≠ -1 ∧ a (6 * s + D.2.2.1 k) ≠ D.2.2.2.1 k
  · simp only [if_pos h]
    rfl
  · simp only [if_neg h]
    by_cases h2 : ldE D k ∨ g (6 * s + D.2.2.1 k) ≠ -1
    · simp only [if_pos h2]
      simp
    · simp only [if_neg h2]
def ldRs (D : ldD) (i : Nat) (k s t : Int) (a g p : Int → Int) (x : Int) : List Nat := (if x < 0 then ldC1 D i k s t a g p 0 else []) ++ ((if x < 1 then ldC1 D i k s t a g p 1 else []) ++ (if x < 2 then ldC1 D i k s t a g p 2 else []))
theorem ldRs_m {D : ldD} {i : Nat} {k s t : Int} {a g p : Int → Int} : ldRs D i k s t a g p (-1) = ldT D (i + 1) k s t a g p := by
  rw [ldT_C]
  unfold ldRs
  rw [if_pos (by omega), if_pos (by omega), if_pos (by omega)]
theorem ldRs_s {D : ldD} {i : Nat} {k s t x : Int} {a g p : Int → Int} (h0 : -1 ≤ x) (h1 : x ≤ 1) : ldRs D i k s t a g p x = ldC1 D i k s t a g p (x + 1) ++ ldRs D i k s t a g p (x + 1) := by
  have hx : x = -1 ∨ x = 0 ∨ x = 1 := by omega
  rcases hx with rfl | rfl | rfl <;> unfold ldRs <;> simp
theorem ldRs_nil {D : ldD} {i : Nat} {k s t x : Int} {a g p : Int → Int} (h : ∀ y : Int, x < y → 0 ≤ y → y ≤ 2 → ldC1 D i k s t a g p y = []) : ldRs D i k s t a g p x = [] := by
  have key : ∀ y : Int, 0 ≤ y → y ≤ 2 → (if x < y then ldC1 D i k s t a g p y else []) = [] := fun y a b => by
    by_cases hy : x < y
    · rw [if_pos hy]
      exact h y hy a b
    · rw [if_neg hy]
  unfold ldRs
  rw [key 0 (by omega) (by omega), key 1 (by omega) (by omega), key 2 (by omega) (by omega)]
  rfl
/-- a try is under way at a deed -/
def ldAp (D : ldD) (S : Nat → Int → Int) (k : Int) (a0 g0 a g : Int → Int) : Prop :=
  (0 ≤ S 519 k ∧ S 519 k ≤ 2) ∧ (a0 (6 * S 513 k + D.2.2.1 k) = -1 ∨ a0 (6 * S 513 k + D.2.2.1 k) = D.2.2.2.1 k) ∧ ∃ fr : Int, (fr = 1 ∨ fr = 0) ∧ (fr = 1 ↔ g0 (6 * S 513 k + D.2.2.1 k) = -1 ∧ ¬ ldE D k) ∧ (fr = 1 → S 519 k ≤ S 518 k ∧ S 519 k < D.1) ∧ (fr = 0 → S 519 k = 0) ∧ a = ldu a0 (6 * S 513 k + D.2.2.1 k) (D.2.2.2.1 k) ∧ g = ldu g0 (6 * S 513 k + D.2.2.1 k) (if fr = 1 then S 519 k else g0 (6 * S 513 k + D.2.2.1 k)) ∧ S 513 (k + 1) = (if ldE D k then 0 else g (6 * S 513 k + D.2.2.1 k)) ∧ S 518 (k + 1) = (if fr = 1 ∧ S 519 k = S 518 k then S 518 k + 1 else S 518 k) ∧ (S 516 k ≠ 0 ↔ a0 (6 * S 513 k + D.2.2.1 k) = -1) ∧ S 517 k = fr
theorem ldAp_C {D : ldD} {S : Nat → Int → Int} {k : Int} {a0 g0 a g : Int → Int} {i : Nat} (hk : 0 ≤ k) (h : ldAp D S k a0 g0 a g) : ldC1 D i k (S 513 k) (S 518 k) a0 g0 (ldt k (S 513)) (S 519 k) = ldT D i (k + 1) (S 513 (k + 1)) (S 518 (k + 1)) a g (ldt (k + 1) (S 513)) := by
  obtain ⟨⟨hx0, hx2⟩, hb, fr, hf, hfr, hf1, hf0, ha, hg, h13, h18, -, -⟩ := h
  rw [h13, h18, ldt_ext hk, ha]
  unfold ldC1
  rw [if_neg (fun q => hb.elim q.1 q.2)]
  rcases hf with hf | hf
  · have hc := hfr.mp hf
    obtain ⟨c1, c2⟩ := hf1 hf
    rw [if_neg (fun q => q.elim hc.2 (fun q => q hc.1)), if_neg hc.2]
    unfold ldX
    rw [if_pos ⟨c1, c2⟩]
    rw [if_pos hf] at hg
    rw [hg, ldu_at]
    congr 1
    by_cases ht : S 519 k = S 518 k
    · rw [if_pos ⟨hf, ht⟩]
      omega
    · rw [if_neg (fun q => ht q.2)]
      omega
  · have hx := hf0 hf
    have hn : ¬ fr = 1 := by omega
    rw [if_neg hn, ldu_id rfl] at hg
    have hc : ldE D k ∨ g0 (6 * S 513 k + D.2.2.1 k) ≠ -1 := by
      by_cases he : ldE D k
      · exact Or.inl he
      · exact Or.inr fun q => hn (hfr.mpr ⟨q, he⟩)
    rw [if_pos hc, if_pos hx, hg, if_neg (show ¬ (fr = 1 ∧ S 519 k = S 518 k) from fun q => hn q.1)]
def ldStk (D : ldD) (S : Nat → Int → Int) : Nat → (Int → Int) → (Int → Int) → List Nat → Prop
  | 0, a, g, rest => a = ldt 18 (fun _ => -1) ∧ g = ldt 18 (fun _ => -1) ∧ S 513 0 = 0 ∧ S 518 0 = 1 ∧ rest = []
  | k + 1, a, g, rest => ∃ (a0 g0 : Int → Int) (rest0 : List Nat), ldStk D S k a0 g0 rest0 ∧ ldAp D S k a0 g0 a g ∧ rest = ldRs D (D.2.1 - k - 1).toNat k (S 513 k) (S 518 k) a0 g0 (ldt k (S 513)) (S 519 k) ++ rest0
theorem ldAp_cg {D : ldD} {S S' : Nat → Int → Int} {k : Int} {a0 g0 a g : Int → Int} (h1 : S' 513 k = S 513 k) (h2 : S' 513 (k + 1) = S 513 (k + 1)) (h3 : S' 518 k = S 518 k) (h4 : S' 518 (k + 1) = S 518 (k + 1)) (h5 : S' 519 k = S 519 k) (h6 : S' 516 k = S 516 k) (h7 : S' 517 k = S 517 k) (h : ldAp D S k a0 g0 a g) : ldAp D S' k a0 g0 a g := by
  unfold ldAp at h ⊢
  rw [h1, h2, h3, h4, h5, h6, h7]
  exact h
theorem ldStk_cg {D : ldD} {S S' : Nat → Int → Int} : ∀ (k : Nat) (a g : Int → Int) (rest : List Nat), (∀ j : Int, 0 ≤ j → j ≤ k → S' 513 j = S 513 j ∧ S' 518 j = S 518 j) → (∀ j : Int, 0 ≤ j → j < k → S' 519 j = S 519 j ∧ S' 516 j = S 516 j ∧ S' 517 j = S 517 j) → ldStk D S k a g rest → ldStk D S' k a g rest
  | 0, a, g, rest, h1, _, h => by
    obtain ⟨q1, q2, q3, q4, q5⟩ := h
    have e := h1 0 (by omega) (by omega)
    exact ⟨q1, q2, e.1.trans q3, e.2.trans q4, q5⟩
  | k + 1, a, g, rest, h1, h2, h => by
    obtain ⟨a0, g0, rest0, q1, q2, q3⟩ := h
    have e := h1 k (by omega) (by omega)
    have e2 := h1 (k + 1) (by omega) (by omega)
    have e3 := h2 k (by omega) (by omega)
    refine ⟨a0, g0, rest0, ldStk_cg k a0 g0 rest0 (fun j a b => h1 j a (by omega)) (fun j a b => h2 j a (by omega)) q1, ldAp_cg e.1 e2.1 e.2 e2.2 e3.1 e3.2.1 e3.2.2 q2, ?_⟩
    rw [q3, e.1, e.2, e3.1, ldt_cg (f := S' 513) (g := S 513) (fun j a b => (h1 j a (by omega)).1)]
def ldCo (D : ldD) (S : Nat → Int → Int) (dn left : List Nat) : Prop := ldA D = dn ++ left ∧ S 480 69 = dn.length ∧ S 480 70 = (ldB 0 dn : Nat)
def ldFin (D : ldD) (S : Nat → Int → Int) : Prop := S 480 69 = (ldA D).length ∧ S 480 70 = (ldB 0 (ldA D) : Nat)
def ldFl (S : Nat → Int → Int) (k : Int) : Prop := ∀ j : Int, k ≤ j → j < 12 → S 516 j = 0 ∧ S 517 j = 0
def ldLe (D : ldD) (S : Nat → Int → Int) (k : Int) (a0 g0 : Int → Int) (rest0 : List Nat) : List Nat := ldRs D (D.2.1 - k - 1).toNat k (S 513 k) (S 518 k) a0 g0 (ldt k (S 513)) (S 519 k) ++ rest0
/-- at the loop's head; behind takeBack; behind goesOn -/
def ldHd (D : ldD) (S : Nat → Int → Int) (k : Int) : Prop := ∃ (a0 g0 : Int → Int) (rest0 dn : List Nat), ldStk D S k.toNat a0 g0 rest0 ∧ ldFl S (k + 1) ∧ ((S 519 k = -1 ∧ S 516 k = 0 ∧ S 517 k = 0 ∧ ldt 18 (S 514) = a0 ∧ ldt 18 (S 515) = g0) ∨ ldAp D S k a0 g0 (ldt 18 (S 514)) (ldt 18 (S 515))) ∧ ldCo D S dn (ldLe D S k a0 g0 rest0)
def ldH7 (D : ldD) (S : Nat → Int → Int) (k : Int) : Prop := ∃ (a0 g0 : Int → Int) (rest0 dn : List Nat), ldStk D S k.toNat a0 g0 rest0 ∧ ldFl S k ∧ (ldt 18 (S 514) = a0 ∧ ldt 18 (S 515) = g0) ∧ ldCo D S dn (ldLe D S k a0 g0 rest0)
def ldH9 (D : ldD) (S : Nat → Int → Int) (k : Int) : Prop := ∃ (a0 g0 : Int → Int) (rest0 dn : List Nat), ldStk D S k.toNat a0 g0 rest0 ∧ ldFl S (k + 1) ∧ ldAp D S k a0 g0 (ldt 18 (S 514)) (ldt 18 (S 515)) ∧ ldCo D S dn (ldC1 D (D.2.1 - k - 1).toNat k (S 513 k) (S 518 k) a0 g0 (ldt k (S 513)) (S 519 k) ++ ldLe D S k a0 g0 rest0)
/-! LEAST, the reference: the steps of the search over the tree -/
theorem ldLe_cg {D : ldD} {S S' : Nat → Int → Int} {k : Int} {a0 g0 : Int → Int} {rest0 : List Nat} (hk : 0 ≤ k) (h1 : ∀ j : Int, 0 ≤ j → j ≤ k → S' 513 j = S 513 j) (h2 : S' 518 k = S 518 k) (h3 : S' 519 k = S 519 k) : ldLe D S' k a0 g0 rest0 = ldLe D S k a0 g0 rest0 := by
  unfold ldLe
  rw [h1 k hk (by omega), h2, h3, ldt_cg (f := S' 513) (g := S 513) (fun j a b => h1 j a (by omega))]
theorem ldTB {D : ldD} {S S' : Nat → Int → Int} {k r : Int} (hk : 0 ≤ k) (hk12 : k < 12) (hr : r = 6 * S 513 k + D.2.2.1 k) (hr0 : 0 ≤ r) (hr1 : r < 18) (c1 : S 516 k ≠ 0 → S' 514 = ldu (S 514) r (-1)) (c2 : S 516 k = 0 → S' 514 = S 514) (c3 : S 517 k ≠ 0 → S' 515 = ldu (S 515) r (-1)) (c4 : S 517 k = 0 → S' 515 = S 515) (c5 : S' 516 = ldu (S 516) k 0) (c6 : S' 517 = ldu (S 517) k 0)
    (f13 : ∀ j : Int, 0 ≤ j → j < 13 → S' 513 j = S 513 j) (f18 : ∀ j : Int, 0 ≤ j → j < 13 → S' 518 j = S 518 j) (f19 : ∀ j : Int, 0 ≤ j → j < 12 → S' 519 j = S 519 j) (f69 : S' 480 69 = S 480 69) (f70 : S' 480 70 = S 480 70) (h : ldHd D S k) : ldH7 D S' k := by
  obtain ⟨a0, g0, rest0, dn, h1, h2, h3, h4, h5, h6⟩ := h
  refine ⟨a0, g0, rest0, dn, ldStk_cg k.toNat a0 g0 rest0 (fun j a b => ⟨f13 j a (by omega), f18 j a (by omega)⟩) (fun j a b => ⟨f19 j a (by omega), by rw [c5, ldu_ne (by omega)], by rw [c6, ldu_ne (by omega)]⟩) h1, fun j a b => ?_, ?_, ?_, f69.trans h5, f70.trans h6⟩
  · by_cases hj : j = k
    · rw [hj, c5, c6, ldu_at, ldu_at]
      exact ⟨rfl, rfl⟩
    · rw [c5, c6, ldu_ne hj, ldu_ne hj]
      exact h2 j (by omega) b
  · rcases h3 with ⟨x, y6, y7, e1, e2⟩ | hA
    · rw [c2 y6, c4 y7]
      exact ⟨e1, e2⟩
    · obtain ⟨-, hb, fr, hf, hfr, hf1, hf0, ha, hg, -, -, h16, h17⟩ := hA
      rw [← hr] at hb hfr ha hg h16
      constructor
      · by_cases q : S 516 k = 0
        · rw [c2 q, ha]
          exact ldu_id (hb.resolve_left fun c => (h16.mpr c) q)
        · rw [c1 q, ldt_up hr0 hr1, ha, ldu_ldu]
          exact ldu_id (h16.mp q)
      · rcases hf with hf | hf
        · rw [c3 (by omega), ldt_up hr0 hr1, hg, ldu_ldu]
          exact ldu_id (hfr.mp hf).1
        · rw [c4 (by omega), hg, if_neg (by omega)]
          exact ldu_id rfl
  · rw [h4, ldLe_cg hk (fun j a b => f13 j a (by omega)) (f18 k hk (by omega)) (f19 k hk hk12)]
theorem ldGOn {D : ldD} {S S' : Nat → Int → Int} {k r m : Int} (hk : 0 ≤ k) (hk12 : k < 12) (hm : D.1 = m) (hE : ldE D k ↔ rxLast S k) (hW : D.2.2.2.1 k = ldrW S k) (hr : r = 6 * S 513 k + D.2.2.1 k) (hr0 : 0 ≤ r) (hr1 : r < 18) (hno : ldBad S k r ∨ ¬ ldTry S k r m (S 519 k + 1)) (p : ∀ p : Nat, p ≠ 519 → S' p = S p) (q : ∀ j : Int, j ≠ k → S' 519 j = S 519 j) (h : ldH7 D S k) : (k = 0 → ldFin D S') ∧ (0 < k → ldHd D S' (k - 1)) := by
  obtain ⟨a0, g0, rest0, dn, h1, h2, ⟨e1, e2⟩, h4, h5, h6⟩ := h
  subst e1
  subst e2
  have hnil : ldRs D (D.2.1 - k - 1).toNat k (S 513 k) (S 518 k) (ldt 18 (S 514)) (ldt 18 (S 515)) (ldt k (S 513)) (S 519 k) = [] := ldRs_nil fun y hy y0 y2 => by
    unfold ldC1
    rw [← hr, ldt_at hr0 hr1, ldt_at hr0 hr1, hW]
    by_cases hb : S 514 r ≠ -1 ∧ S 514 r ≠ ldrW S k
    · rw [if_pos hb]
    · have ht := hno.resolve_left hb
      rw [if_neg hb]
      by_cases hc : ldE D k ∨ S 515 r ≠ -1
      · have h1 : ¬ S 519 k + 1 < 1 := fun c => ht ⟨fun z => absurd hc (fun w => w.elim (fun w => z.2 (hE.mp w)) (fun w => w z.1)), fun _ => c⟩
        rw [if_pos hc, if_neg (by omega)]
      · have hfr : ldFre S k r := ⟨Classical.byContradiction fun c => hc (Or.inr c), fun c => hc (Or.inl (hE.mpr c))⟩
        have h1 : ¬ S 519 k + 1 < (if S 518 k < m then S 518 k + 1 else S 518 k) := fun c => ht ⟨fun _ => c, fun z => absurd hfr z⟩
        rw [if_neg hc]
        refine ldX_nil ?_
        rw [hm]
        split at h1 <;> omega
  unfold ldLe at h4
  rw [hnil, List.nil_append] at h4
  have e69 : S' 480 69 = S 480 69 := congrFun (p 480 (by omega)) 69
  have e70 : S' 480 70 = S 480 70 := congrFun (p 480 (by omega)) 70
  refine ⟨fun k0 => ?_, fun k1 => ?_⟩
  · rw [show k.toNat = 0 by omega] at h1
    obtain ⟨-, -, -, -, hr⟩ := h1
    rw [hr, List.append_nil] at h4
    exact ⟨by rw [h4, e69]; exact h5, by rw [h4, e70]; exact h6⟩
  · rw [show k.toNat = (k - 1).toNat + 1 by omega] at h1
    obtain ⟨a1, g1, rest1, s1, s2, s3⟩ := h1
    rw [show (((k - 1).toNat : Nat) : Int) = k - 1 by omega] at s2 s3
    have f13 : ∀ j : Int, S' 513 j = S 513 j := fun j => congrFun (p 513 (by omega)) j
    have f18 : ∀ j : Int, S' 518 j = S 518 j := fun j => congrFun (p 518 (by omega)) j
    have f16 : ∀ j : Int, S' 516 j = S 516 j := fun j => congrFun (p 516 (by omega)) j
    have f17 : ∀ j : Int, S' 517 j = S 517 j := fun j => congrFun (p 517 (by omega)) j
    refine ⟨a1, g1, rest1, dn, ldStk_cg _ a1 g1 rest1 (fun j a b => ⟨f13 j, f18 j⟩) (fun j a b => ⟨q j (by omega), f16 j, f17 j⟩) s1, fun j a b => by rw [f16, f17]; exact h2 j (by omega) b, Or.inr ?_, ?_, e69.trans h5, e70.trans h6⟩
    · rw [p 514 (by omega), p 515 (by omega)]
      exact ldAp_cg (f13 _) (f13 _) (f18 _) (f18 _) (q _ (by omega)) (f16 _) (f17 _) s2
    · rw [h4, s3, ldLe_cg (by omega) (fun j _ _ => f13 j) (f18 _) (q _ (by omega))]
      rfl
theorem ldGOy {D : ldD} {S S' T : Nat → Int → Int} {k r m fr : Int} (hk : 0 ≤ k) (hk12 : k < 12) (hm : D.1 = m) (hm3 : m ≤ 3) (ht3 : S 518 k ≤ m) (hx : -1 ≤ S 519 k) (hE : ldE D k ↔ rxLast S k) (hW : D.2.2.2.1 k = ldrW S k) (hr : r = 6 * S 513 k + D.2.2.1 k) (hr0 : 0 ≤ r) (hr1 : r < 18) (hb : ¬ ldBad S k r) (ht : ldTry S k r m (S 519 k + 1)) (hf : fr = 1 ∨ fr = 0) (hfr : fr = 1 ↔ ldFre S k r) (hQ : ldQ5 S T k r fr) (p : ∀ p : Nat, p ≠ 518 → S' p = T p) (h18 : S' 518 = ldu (S 518) (k + 1) (if fr = 1 ∧ S 519 k + 1 = S 518 k then S 518 k + 1 else S 518 k)) (h : ldH7 D S k) : ldH9 D S' k := by
  obtain ⟨a0, g0, rest0, dn, h1, h2, ⟨e1, e2⟩, h4, h5, h6⟩ := h
  subst e1
  subst e2
  obtain ⟨q0, q19, q14, q15, q16, q17, q13l, q13n⟩ := hQ
  have c19 : S' 519 = ldu (S 519) k (S 519 k + 1) := (p 519 (by omega)).trans q19
  have c14 : S' 514 = ldu (S 514) r (ldrW S k) := (p 514 (by omega)).trans q14
  have c15 : S' 515 = ldu (S 515) r (if fr = 1 then S 519 k + 1 else S 515 r) := (p 515 (by omega)).trans q15
  have c16 : S' 516 = ldu (S 516) k (if S 514 r = -1 then 1 else 0) := (p 516 (by omega)).trans q16
  have c17 : S' 517 = ldu (S 517) k fr := (p 517 (by omega)).trans q17
  have c13 : ∃ v : Int, S' 513 = ldu (S 513) (k + 1) v ∧ v = (if ldE D k then 0 else S' 515 r) := by
    by_cases he : ldE D k
    · exact ⟨0, (p 513 (by omega)).trans (q13l (hE.mp he)), by rw [if_pos he]⟩
    · exact ⟨_, (p 513 (by omega)).trans (q13n (fun c => he (hE.mpr c))), by rw [if_neg he, p 515 (by omega)]⟩
  obtain ⟨v, c13, hv⟩ := c13
  have e480 : S' 480 = S 480 := (p 480 (by omega)).trans (q0 480 (by omega) (by omega) (by omega) (by omega) (by omega) (by omega))
  have f13 : ∀ j : Int, j ≤ k → S' 513 j = S 513 j := fun j a => by rw [c13, ldu_ne (by omega)]
  have f18 : ∀ j : Int, j ≤ k → S' 518 j = S 518 j := fun j a => by rw [h18, ldu_ne (by omega)]
  have x19 : S' 519 k = S 519 k + 1 := by rw [c19, ldu_at]
  have x2 : S 519 k + 1 ≤ 2 := by
    by_cases hfr2 : ldFre S k r
    · have := ht.1 hfr2
      split at this <;> omega
    · have := ht.2 hfr2
      omega
  have b2 : S 514 r = -1 ∨ S 514 r = ldrW S k := by
    by_cases c : S 514 r = -1
    · exact Or.inl c
    · exact Or.inr (Classical.byContradiction fun d => hb ⟨c, d⟩)
  refine ⟨ldt 18 (S 514), ldt 18 (S 515), rest0, dn, ldStk_cg _ _ _ _ (fun j a b => ⟨f13 j (by omega), f18 j (by omega)⟩) (fun j a b => ⟨by rw [c19, ldu_ne (by omega)], by rw [c16, ldu_ne (by omega)], by rw [c17, ldu_ne (by omega)]⟩) h1, fun j a b => by rw [c16, c17, ldu_ne (by omega), ldu_ne (by omega)]; exact h2 j (by omega) b, ?_, ?_, by rw [e480]; exact h5, by rw [e480]; exact h6⟩
  · unfold ldAp
    rw [f13 k (Int.le_refl _), f18 k (Int.le_refl _), x19, ← hr, ldt_at hr0 hr1, ldt_at hr0 hr1, hW]
    refine ⟨⟨by omega, x2⟩, b2, fr, hf, ⟨fun c => ⟨(hfr.mp c).1, fun d => (hfr.mp c).2 (hE.mp d)⟩, fun c => hfr.mpr ⟨c.1, fun d => c.2 (hE.mpr d)⟩⟩, fun c => ?_, fun c => ?_, ?_, ?_, ?_, ?_, ?_, ?_⟩
    · have := ht.1 (hfr.mp c)
      rw [hm]
      split at this <;> omega
    · have := ht.2 (fun d => by have := hfr.mpr d; omega)
      omega
    · rw [c14, ldt_up hr0 hr1]
    · rw [c15, ldt_up hr0 hr1]
    · rw [c13, ldu_at, hv, ldt_at hr0 hr1]
    · rw [h18, ldu_at]
    · rw [c16, ldu_at]
      by_cases c : S 514 r = -1
      · rw [if_pos c]
        exact ⟨fun _ => c, fun _ => by omega⟩
      · rw [if_neg c]
        exact ⟨fun d => absurd rfl d, fun d => absurd d c⟩
    · rw [c17, ldu_at]
  · unfold ldLe at h4 ⊢
    rw [h4, ldRs_s (by omega) (by omega), f13 k (Int.le_refl _), f18 k (Int.le_refl _), x19, ldt_cg (f := S' 513) (g := S 513) (fun j a b => f13 j (by omega)), List.append_assoc]
theorem ldMEs {D : ldD} {S S' : Nat → Int → Int} {k : Int} (hk : 0 ≤ k) (hn : k + 1 = D.2.1) (p : ∀ p : Nat, p ≠ 480 → S' p = S p) (h69 : S' 480 69 = S 480 69 + 1) (h70 : S' 480 70 = (((S 480 70).toNat ||| D.2.2.2.2.2 (ldt 18 (S 514)) (ldt 18 (S 515)) (ldt (k + 1) (S 513)) : Nat) : Int)) (h : ldH9 D S k) : ldHd D S' k := by
  obtain ⟨a0, g0, rest0, dn, h1, h2, h3, h4, h5, h6⟩ := h
  rw [ldAp_C hk h3, show (D.2.1 - k - 1).toNat = 0 by omega] at h4
  have e : ldT D 0 (k + 1) (S 513 (k + 1)) (S 518 (k + 1)) (ldt 18 (S 514)) (ldt 18 (S 515)) (ldt (k + 1) (S 513)) = [D.2.2.2.2.2 (ldt 18 (S 514)) (ldt 18 (S 515)) (ldt (k + 1) (S 513))] := rfl
  rw [e] at h4
  have f : ∀ (p' : Nat) (j : Int), p' ≠ 480 → S' p' j = S p' j := fun p' j hp => congrFun (p p' hp) j
  refine ⟨a0, g0, rest0, dn ++ [D.2.2.2.2.2 (ldt 18 (S 514)) (ldt 18 (S 515)) (ldt (k + 1) (S 513))], ldStk_cg _ _ _ _ (fun j a b => ⟨f _ _ (by omega), f _ _ (by omega)⟩) (fun j a b => ⟨f _ _ (by omega), f _ _ (by omega), f _ _ (by omega)⟩) h1, fun j a b => by rw [f _ _ (by omega), f _ _ (by omega)]; exact h2 j a b, Or.inr ?_, ?_, ?_, ?_⟩
  · rw [p 514 (by omega), p 515 (by omega)]
    exact ldAp_cg (f _ _ (by omega)) (f _ _ (by omega)) (f _ _ (by omega)) (f _ _ (by omega)) (f _ _ (by omega)) (f _ _ (by omega)) (f _ _ (by omega)) h3
  · rw [h4, ldLe_cg hk (fun j _ _ => f _ _ (by omega)) (f _ _ (by omega)) (f _ _ (by omega)), List.append_assoc]
  · rw [h69, h5, List.length_append]
    rfl
  · rw [h70, h6, ldB_app]
    rfl
theorem ldPu {D : ldD} {S : Nat → Int → Int} {k : Int} (hk : 0 ≤ k) (hn : k + 1 < D.2.1) (h12 : D.2.1 ≤ 12) (h : ldH9 D S k) : ldHd D (bx_up S 519 (k + 1) (-1)) (k + 1) := by
  obtain ⟨a0, g0, rest0, dn, h1, h2, h3, h4, h5, h6⟩ := h
  have f : ∀ (p' : Nat) (j : Int), p' ≠ 519 → bx_up S 519 (k + 1) (-1) p' j = S p' j := fun p' j hp => bx_up_ne (fun q => hp q.1)
  have f19 : ∀ j : Int, j ≠ k + 1 → bx_up S 519 (k + 1) (-1) 519 j = S 519 j := fun j hj => bx_up_ne (fun q => hj q.2)
  have hfl := h2 (k + 1) (by omega) (by omega)
  refine ⟨ldt 18 (S 514), ldt 18 (S 515), ldLe D S k a0 g0 rest0, dn, ?_, fun j a b => by rw [f _ _ (by omega), f _ _ (by omega)]; exact h2 j (by omega) b, Or.inl ⟨bx_up_at, (f _ _ (by omega)).trans hfl.1, (f _ _ (by omega)).trans hfl.2, by rw [bx_up_row (by omega)], by rw [bx_up_row (by omega)]⟩, ?_, (f _ _ (by omega)).trans h5, (f _ _ (by omega)).trans h6⟩
  · refine ldStk_cg (S := S) _ _ _ _ (fun j a b => ⟨f _ _ (by omega), f _ _ (by omega)⟩) (fun j a b => ⟨f19 j (by omega), f _ _ (by omega), f _ _ (by omega)⟩) ?_
    rw [show (k + 1).toNat = k.toNat + 1 by omega]
    refine ⟨a0, g0, rest0, h1, ?_, ?_⟩
    · rw [show ((k.toNat : Nat) : Int) = k by omega]
      exact h3
    · rw [show ((k.toNat : Nat) : Int) = k by omega]
      rfl
  · rw [h4, ldAp_C hk h3]
    unfold ldLe
    rw [bx_up_at, f 513 _ (by omega), f 518 _ (by omega), bx_up_row (by omega), ldRs_m, show (D.2.1 - (k + 1) - 1).toNat + 1 = (D.2.1 - k - 1).toNat by omega]
theorem ldIn {D : ldD} {S : Nat → Int → Int} (hn : 0 < D.2.1) (ha : ∀ j : Int, 0 ≤ j → j < 18 → S 514 j = -1 ∧ S 515 j = -1) (hf : ldFl S 0) (h13 : S 513 0 = 0) (h18 : S 518 0 = 1) (h19 : S 519 0 = -1) (h69 : S 480 69 = 0) (h70 : S 480 70 = 0) : ldHd D S 0 := by
  have e1 : ldt 18 (S 514) = ldt 18 (fun _ => -1) := ldt_cg fun j a b => (ha j a b).1
  have e2 : ldt 18 (S 515) = ldt 18 (fun _ => -1) := ldt_cg fun j a b => (ha j a b).2
  refine ⟨ldt 18 (fun _ => -1), ldt 18 (fun _ => -1), [], [], ⟨rfl, rfl, h13, h18, rfl⟩, fun j a b => hf j (by omega) b, Or.inl ⟨h19, (hf 0 (by omega) (by omega)).1, (hf 0 (by omega) (by omega)).2, e1, e2⟩, ?_, h69, h70⟩
  unfold ldLe
  rw [h19, ldRs_m, h13, h18, List.nil_append, List.append_nil, show (D.2.1 - 0 - 1).toNat + 1 = D.2.1.toNat by omega, ldt_0 (f := S 513) (g := fun _ => 0)]
  rfl
theorem ldZe {D : ldD} {S S' : Nat → Int → Int} (hn : D.2.1 = 0) (ha : ∀ j : Int, 0 ≤ j → j < 18 → S 514 j = -1 ∧ S 515 j = -1) (h69 : S' 480 69 = 1) (h70 : S' 480 70 = ((D.2.2.2.2.2 (ldt 18 (S 514)) (ldt 18 (S 515)) (ldt 0 (S 513)) : Nat) : Int)) : ldFin D S' := by
  have e1 : ldt 18 (S 514) = ldt 18 (fun _ => -1) := ldt_cg fun j a b => (ha j a b).1
  have e2 : ldt 18 (S 515) = ldt 18 (fun _ => -1) := ldt_cg fun j a b => (ha j a b).2
  have e : ldA D = [D.2.2.2.2.2 (ldt 18 (fun _ => -1)) (ldt 18 (fun _ => -1)) (ldt 0 (fun _ => 0))] := by
    unfold ldA
    rw [hn]
    rfl
  rw [e1, e2, ldt_0 (f := S 513) (g := fun _ => 0)] at h70
  refine ⟨by rw [e, h69]; rfl, ?_⟩
  rw [e, h70]
  show _ = ((0 ||| D.2.2.2.2.2 (ldt 18 (fun _ => -1)) (ldt 18 (fun _ => -1)) (ldt 0 (fun _ => 0)) : Nat) : Int)
  rw [Nat.zero_or]
