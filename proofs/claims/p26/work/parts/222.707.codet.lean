section
/-! CODE IS WELL MADE: what stands at each place of it (true: yes or no; false: a number) -/
/-- what waits, the topmost first -/
def rkWl (po pa : Int → Int) : Nat → List (Int × Int)
  | 0 => []
  | k + 1 => (po (k : Int), pa (k : Int)) :: rkWl po pa k
abbrev rkWc (c : rkC) : List (Int × Int) := rkWl (rkPo c) (rkPa c) c.1
theorem rkWl_cg {po pa po' pa' : Int → Int} : ∀ {k : Nat}, (∀ j : Int, j < (k : Int) → po' j = po j ∧ pa' j = pa j) → rkWl po' pa' k = rkWl po pa k
  | 0, _ => rfl
  | k + 1, h => by
    show (po' (k : Int), pa' (k : Int)) :: rkWl po' pa' k = (po (k : Int), pa (k : Int)) :: rkWl po pa k
    rw [(h k (by omega)).1, (h k (by omega)).2, rkWl_cg fun j hj => h j (by omega)]
theorem rkWc_push {op a : Int} {c : rkC} : rkWc (rkPush op a c) = (op, a) :: rkWc c := by
  show (rkUp (rkPo c) (c.1 : Int) op (c.1 : Int), rkUp (rkPa c) (c.1 : Int) a (c.1 : Int)) :: rkWl (rkUp (rkPo c) (c.1 : Int) op) (rkUp (rkPa c) (c.1 : Int) a) c.1 = _
  rw [rkUp_at, rkUp_at, rkWl_cg (po := rkPo c) (pa := rkPa c) fun j hj => ⟨rkUp_ne (by omega), rkUp_ne (by omega)⟩]
theorem rkWc_emit {op a : Int} {c : rkC} : rkWc (rkEmit op a c) = rkWc c := rfl
theorem rkWc_cons {c : rkC} {x : Int × Int} {W : List (Int × Int)} (h : rkWc c = x :: W) : 0 < c.1 ∧ rkPo c ((c.1 : Int) - 1) = x.1 ∧ rkPa c ((c.1 : Int) - 1) = x.2 ∧ rkWc (rkPop c) = W ∧ rkWc (rkTop c) = W := by
  obtain ⟨k, po, pa, r⟩ := c
  cases k with
  | zero => cases h
  | succ k =>
    have h : (po (k : Int), pa (k : Int)) :: rkWl po pa k = x :: W := h
    have h1 : (po (k : Int), pa (k : Int)) = x := (List.cons.inj h).1
    have h2 : rkWl po pa k = W := (List.cons.inj h).2
    have e : ((k + 1 : Nat) : Int) - 1 = (k : Int) := by omega
    refine ⟨Nat.succ_pos k, ?_, ?_, h2, ?_⟩
    · show po (((k + 1 : Nat) : Int) - 1) = x.1
      rw [e, ← h1]
    · show pa (((k + 1 : Nat) : Int) - 1) = x.2
      rw [e, ← h1]
    · unfold rkTop
      split
      · exact h2
      · exact h2
theorem rkWc_nil {c : rkC} (h : rkWc c = []) : c.1 = 0 := by
  obtain ⟨k, po, pa, r⟩ := c
  cases k with
  | zero => rfl
  | succ k => cases h
/-- the left sides that stand below -/
def rkLf : List (Int × Int) → List Bool
  | [] => []
  | x :: W => if 20 ≤ x.1 ∧ x.1 ≤ 27 then false :: rkLf W else rkLf W
theorem rkLf_y {x : Int × Int} {W : List (Int × Int)} (h : 20 ≤ x.1 ∧ x.1 ≤ 27) : rkLf (x :: W) = false :: rkLf W := if_pos h
theorem rkLf_n {x : Int × Int} {W : List (Int × Int)} (h : 28 ≤ x.1) : rkLf (x :: W) = rkLf W := if_neg (by omega)
/-- leaps that wait for their end -/
def rkLo (τ : Int → List Bool) (fo fa : Int → Int) : Int → List (Int × Int) → Prop
  | _, [] => True
  | m, x :: W => if x.1 = 29 ∨ x.1 = 30 then 0 ≤ x.2 ∧ x.2 < m ∧ fo x.2 = x.1 ∧ fa x.2 = 0 ∧ τ x.2 = true :: rkLf W ∧ rkLo τ fo fa x.2 W else rkLo τ fo fa m W
theorem rkLo_cg {τ τ' : Int → List Bool} {fo fo' fa fa' : Int → Int} : ∀ {W : List (Int × Int)} {m m' : Int}, (∀ j : Int, 0 ≤ j → j < m → τ' j = τ j ∧ fo' j = fo j ∧ fa' j = fa j) → m ≤ m' → rkLo τ fo fa m W → rkLo τ' fo' fa' m' W
  | [], _, _, _, _, _ => trivial
  | x :: W, m, m', e, hm, h => by
    unfold rkLo at h ⊢
    by_cases hx : x.1 = 29 ∨ x.1 = 30
    · rw [if_pos hx] at h ⊢
      obtain ⟨h1, h2, h3, h4, h5, h6⟩ := h
      obtain ⟨e1, e2, e3⟩ := e x.2 h1 h2
      exact ⟨h1, by omega, e2.trans h3, e3.trans h4, e1.trans h5, rkLo_cg (fun j a b => e j a (by omega)) (Int.le_refl _) h6⟩
    · rw [if_neg hx] at h ⊢
      exact rkLo_cg e hm h
theorem rkLo_n {τ : Int → List Bool} {fo fa : Int → Int} {x : Int × Int} {W : List (Int × Int)} {m : Int} (hx : ¬ (x.1 = 29 ∨ x.1 = 30)) : rkLo τ fo fa m (x :: W) ↔ rkLo τ fo fa m W := by
  unfold rkLo
  rw [if_neg hx]
  cases W <;> exact Iff.rfl
/-- what a step makes of it -/
def rkRu (τ : Int → List Bool) (m i op a : Int) : Prop :=
  (0 ≤ op ∧ op ≤ 8 ∧ τ (i + 1) = false :: τ i) ∨ (20 ≤ op ∧ op ≤ 24 ∧ ∃ t : List Bool, τ i = false :: false :: t ∧ τ (i + 1) = false :: t) ∨ (25 ≤ op ∧ op ≤ 27 ∧ ∃ t : List Bool, τ i = false :: false :: t ∧ τ (i + 1) = true :: t) ∨ (op = 28 ∧ ∃ t : List Bool, τ i = true :: t ∧ τ (i + 1) = true :: t) ∨ ((op = 29 ∨ op = 30) ∧ ∃ t : List Bool, τ i = true :: t ∧ τ (i + 1) = t ∧ (a = 0 ∨ (i < a ∧ a ≤ m ∧ τ a = true :: t)))
theorem rkRl_cg {τ τ' : Int → List Bool} {m m' i op a : Int} (e : ∀ j : Int, 0 ≤ j → j ≤ m → τ' j = τ j) (hm : m ≤ m') (i0 : 0 ≤ i) (i1 : i < m) (h : rkRu τ m i op a) : rkRu τ' m' i op a := by
  have e0 := e i i0 (by omega)
  have e1 := e (i + 1) (by omega) (by omega)
  unfold rkRu at h ⊢
  rw [e0, e1]
  rcases h with h | h | h | h | ⟨h1, t, h2, h3, h4⟩
  · exact Or.inl h
  · exact Or.inr (Or.inl h)
  · exact Or.inr (Or.inr (Or.inl h))
  · exact Or.inr (Or.inr (Or.inr (Or.inl h)))
  · refine Or.inr (Or.inr (Or.inr (Or.inr ⟨h1, t, h2, h3, ?_⟩)))
    rcases h4 with h4 | ⟨h4, h5, h6⟩
    · exact Or.inl h4
    · exact Or.inr ⟨h4, by omega, (e a (by omega) h5).trans h6⟩
def rkCd (fo fa : Int → Int) (m : Int) (W : List (Int × Int)) : Prop := ∀ i : Int, 0 ≤ i → i < m → fo i = 29 ∨ fo i = 30 → fa i = 0 → ∃ x ∈ W, (x.1 = 29 ∨ x.1 = 30) ∧ x.2 = i
def rkTz (m : Int) (fo fa : Int → Int) (W : List (Int × Int)) (L : List Bool) : Prop := 0 ≤ m ∧ ∃ τ : Int → List Bool, τ 0 = [] ∧ (∀ i : Int, 0 ≤ i → i < m → rkRu τ m i (fo i) (fa i)) ∧ τ m = L ∧ rkLo τ fo fa m W ∧ rkCd fo fa m W
theorem rkTz_em {m op a : Int} {fo fa : Int → Int} {W : List (Int × Int)} {L : List Bool} (L' : List Bool) (h : rkTz m fo fa W L) : ∃ τ : Int → List Bool, τ 0 = [] ∧ (∀ i : Int, 0 ≤ i → i < m → rkRu τ (m + 1) i (rkUp fo m op i) (rkUp fa m a i)) ∧ τ m = L ∧ τ (m + 1) = L' ∧ rkLo τ (rkUp fo m op) (rkUp fa m a) m W ∧ rkCd (rkUp fo m op) (rkUp fa m a) m W := by
  obtain ⟨m0, τ, h1, h2, h3, h4, h5⟩ := h
  have e : ∀ j : Int, j ≠ m + 1 → (fun j : Int => if j = m + 1 then L' else τ j) j = τ j := fun j hj => if_neg hj
  refine ⟨fun j => if j = m + 1 then L' else τ j, (e 0 (by omega)).trans h1, fun i i0 i1 => ?_, (e m (by omega)).trans h3, if_pos rfl, rkLo_cg (fun j a b => ⟨e j (by omega), rkUp_ne (by omega), rkUp_ne (by omega)⟩) (Int.le_refl m) h4, fun i i0 i1 hf ha => ?_⟩
  · rw [rkUp_ne (by omega), rkUp_ne (by omega)]
    exact rkRl_cg (fun j a b => e j (by omega)) (by omega) i0 i1 (h2 i i0 i1)
  · rw [rkUp_ne (by omega)] at hf ha
    exact h5 i i0 i1 hf ha
theorem rkTz_ne {m op a : Int} {fo fa : Int → Int} {W W' : List (Int × Int)} {L : List Bool} (L' : List Bool) (h : rkTz m fo fa W L) (hn : ¬ (op = 29 ∨ op = 30)) (hr : ∀ τ : Int → List Bool, τ m = L → τ (m + 1) = L' → rkRu τ (m + 1) m op a) (hl : ∀ (τ : Int → List Bool) (fo fa : Int → Int), rkLo τ fo fa m W → rkLo τ fo fa m W') (hc : ∀ x ∈ W, x.1 = 29 ∨ x.1 = 30 → x ∈ W') : rkTz (m + 1) (rkUp fo m op) (rkUp fa m a) W' L' := by
  have m0 := h.1
  obtain ⟨τ, h1, h2, h3, h4, h5, h6⟩ := rkTz_em (op := op) (a := a) L' h
  refine ⟨by omega, τ, h1, fun i i0 i1 => ?_, h4, rkLo_cg (fun j _ _ => ⟨rfl, rfl, rfl⟩) (by omega) (hl _ _ _ h5), fun i i0 i1 hf ha => ?_⟩
  · by_cases hi : i = m
    · subst hi
      rw [rkUp_at, rkUp_at]
      exact hr τ h3 h4
    · exact h2 i i0 (by omega)
  · by_cases hi : i = m
    · subst hi
      rw [rkUp_at] at hf
      exact absurd hf hn
    · obtain ⟨x, x1, x2, x3⟩ := h6 i i0 (by omega) hf ha
      exact ⟨x, hc x x1 x2, x2, x3⟩
def rkTy (c : rkC) (pr b : Bool) : Prop := rkTz (rkM c) (rkFo c) (rkFa c) (rkWc c) (if pr = true then b :: rkLf (rkWc c) else rkLf (rkWc c))
section RKTY
variable {c : rkC} {x : Int × Int} {W : List (Int × Int)} {op a : Int} {b b_p : Bool}
theorem rkTy_num (h : rkTy c false b) (h0 : 0 ≤ op) (h8 : op ≤ 8) : rkTy (rkEmit op a c) true false := by
  refine rkTz_ne (op := op) (a := a) (W' := rkWc c) (false :: rkLf (rkWc c)) h (by omega) (fun τ e1 e2 => Or.inl ⟨h0, h8, ?_⟩) (fun _ _ _ q => q) (fun x q _ => q)
  rw [e2, e1]
  rfl
theorem rkTop_ne (hw : rkWc c = x :: W) (hn : ¬ (x.1 = 29 ∨ x.1 = 30)) : rkTop c = rkEmit x.1 0 (rkPop c) := by
  obtain ⟨-, h1, -, -, -⟩ := rkWc_cons hw
  unfold rkTop
  rw [h1, if_neg hn]
theorem rkTy_bin (h : rkTy c true false) (hw : rkWc c = x :: W) (h1 : 20 ≤ x.1) (h2 : x.1 ≤ 27) : rkTy (rkTop c) true (decide (25 ≤ x.1)) := by
  have hn : ¬ (x.1 = 29 ∨ x.1 = 30) := by omega
  obtain ⟨-, -, -, hp, -⟩ := rkWc_cons hw
  rw [rkTop_ne hw hn]
  unfold rkTy at h ⊢
  rw [rkWc_emit, hp]
  rw [hw] at h
  refine rkTz_ne (op := x.1) (a := 0) (decide (25 ≤ x.1) :: rkLf W) h hn (fun τ e1 e2 => ?_) (fun τ fo fa q => (rkLo_n hn).mp q) (fun y q r => ?_)
  · have e1 : τ (rkM c) = false :: rkLf (x :: W) := e1
    rw [rkLf_y ⟨h1, h2⟩] at e1
    by_cases h3 : 25 ≤ x.1
    · rw [decide_eq_true h3] at e2
      exact Or.inr (Or.inr (Or.inl ⟨h3, h2, rkLf W, e1, e2⟩))
    · rw [decide_eq_false h3] at e2
      exact Or.inr (Or.inl ⟨h1, by omega, rkLf W, e1, e2⟩)
  · rcases List.mem_cons.mp q with e | e
    · rw [e] at r
      exact absurd r hn
    · exact e
theorem rkTy_not (h : rkTy c true true) (hw : rkWc c = x :: W) (h1 : x.1 = 28) : rkTy (rkTop c) true true := by
  have hn : ¬ (x.1 = 29 ∨ x.1 = 30) := by omega
  obtain ⟨-, -, -, hp, -⟩ := rkWc_cons hw
  rw [rkTop_ne hw hn]
  unfold rkTy at h ⊢
  rw [rkWc_emit, hp]
  rw [hw] at h
  refine rkTz_ne (op := x.1) (a := 0) (true :: rkLf W) h hn (fun τ e1 e2 => ?_) (fun τ fo fa q => (rkLo_n hn).mp q) (fun y q r => ?_)
  · have e1 : τ (rkM c) = true :: rkLf (x :: W) := e1
    rw [rkLf_n (by omega)] at e1
    exact Or.inr (Or.inr (Or.inr (Or.inl ⟨h1, rkLf W, e1, e2⟩)))
  · rcases List.mem_cons.mp q with e | e
    · rw [e] at r
      exact absurd r hn
    · exact e
theorem rkTy_leap (h : rkTy c true true) (hw : rkWc c = x :: W) (h1 : x.1 = 29 ∨ x.1 = 30) : rkTy (rkTop c) true true := by
  obtain ⟨-, p1, p2, -, hp⟩ := rkWc_cons hw
  have ht : rkTop c = (c.1 - 1, c.2.1, c.2.2.1, c.2.2.2.1, c.2.2.2.2.1, rkUp c.2.2.2.2.2 x.2 c.2.2.2.1) := by
    unfold rkTop
    rw [p1, if_pos h1, p2]
  have e0 : rkM (rkTop c) = rkM c := by rw [ht]
  have e1 : rkFo (rkTop c) = rkFo c := by rw [ht]
  have e2 : rkFa (rkTop c) = rkUp (rkFa c) x.2 (rkM c) := by rw [ht]
  unfold rkTy at h ⊢
  rw [hp, e0, e1, e2]
  rw [hw] at h
  obtain ⟨m0, τ, g1, g2, g3, g4, g5⟩ := h
  have g3 : τ (rkM c) = true :: rkLf (x :: W) := g3
  rw [rkLf_n (by omega)] at g3
  unfold rkLo at g4
  rw [if_pos h1] at g4
  obtain ⟨l1, l2, l3, l4, l5, l6⟩ := g4
  refine ⟨m0, τ, g1, fun i i0 i1 => ?_, g3, rkLo_cg (fun j a b => ⟨rfl, rfl, rkUp_ne (by omega)⟩) (by omega) l6, fun i i0 i1 hf ha => ?_⟩
  · by_cases hi : i = x.2
    · subst hi
      rw [rkUp_at]
      have r := g2 x.2 i0 i1
      unfold rkRu at r ⊢
      rcases r with r | r | r | r | ⟨r1, t, r2, r3, r4⟩
      · omega
      · omega
      · omega
      · omega
      · have et : t = rkLf W := (List.cons.inj (r2.symm.trans l5)).2
        exact Or.inr (Or.inr (Or.inr (Or.inr ⟨r1, t, r2, r3, Or.inr ⟨l2, Int.le_refl _, by rw [et]; exact g3⟩⟩)))
    · rw [rkUp_ne hi]
      exact g2 i i0 i1
  · by_cases hi : i = x.2
    · subst hi
      rw [rkUp_at] at ha
      omega
    · rw [rkUp_ne hi] at ha
      obtain ⟨y, y1, y2, y3⟩ := g5 i i0 i1 hf ha
      rcases List.mem_cons.mp y1 with e | e
      · rw [e] at y3
        exact absurd y3.symm hi
      · exact ⟨y, e, y2, y3⟩
theorem rkTz_W {m : Int} {fo fa : Int → Int} {W W' : List (Int × Int)} {L : List Bool} (h : rkTz m fo fa W L) (hl : ∀ (τ : Int → List Bool), rkLo τ fo fa m W → rkLo τ fo fa m W') (hc : ∀ x ∈ W, x.1 = 29 ∨ x.1 = 30 → x ∈ W') : rkTz m fo fa W' L := by
  obtain ⟨m0, τ, g1, g2, g3, g4, g5⟩ := h
  exact ⟨m0, τ, g1, g2, g3, hl τ g4, fun i i0 i1 hf ha => by
    obtain ⟨y, y1, y2, y3⟩ := g5 i i0 i1 hf ha
    exact ⟨y, hc y y1 y2, y2, y3⟩⟩
theorem rkTy_pu0 (h : rkTy c false b) (ho : op = 28 ∨ 31 ≤ op) : rkTy (rkPush op 0 c) false b_p := by
  have hn : ¬ (((op, 0) : Int × Int).1 = 29 ∨ ((op, 0) : Int × Int).1 = 30) := by
    show ¬ (op = 29 ∨ op = 30)
    omega
  unfold rkTy at h ⊢
  rw [rkWc_push, if_neg (by decide), rkLf_n (by show 28 ≤ op; omega)]
  rw [if_neg (by decide)] at h
  exact rkTz_W h (fun τ q => (rkLo_n hn).mpr q) (fun x q _ => List.mem_cons_of_mem _ q)
theorem rkTy_pu2 (h : rkTy c true false) (h1 : 20 ≤ op) (h2 : op ≤ 27) : rkTy (rkPush op 0 c) false b_p := by
  have hn : ¬ (((op, 0) : Int × Int).1 = 29 ∨ ((op, 0) : Int × Int).1 = 30) := by
    show ¬ (op = 29 ∨ op = 30)
    omega
  unfold rkTy at h ⊢
  rw [rkWc_push, if_neg (by decide), rkLf_y (by show 20 ≤ op ∧ op ≤ 27; omega)]
  rw [if_pos rfl] at h
  exact rkTz_W h (fun τ q => (rkLo_n hn).mpr q) (fun x q _ => List.mem_cons_of_mem _ q)
theorem rkTy_pop (h : rkTy c true b) (hw : rkWc c = x :: W) (hx : 31 ≤ x.1) : rkTy (rkPop c) true b := by
  have hn : ¬ (x.1 = 29 ∨ x.1 = 30) := by omega
  obtain ⟨-, -, -, hp, -⟩ := rkWc_cons hw
  unfold rkTy at h ⊢
  rw [hp]
  rw [hw, rkLf_n (by omega)] at h
  exact rkTz_W h (fun τ q => (rkLo_n hn).mp q) (fun y q r => by
    rcases List.mem_cons.mp q with e | e
    · rw [e] at r
      exact absurd r hn
    · exact e)
theorem rkTy_and (h : rkTy c true true) (ho : op = 29 ∨ op = 30) : rkTy (rkPush op (rkM c) (rkEmit op 0 c)) false b_p := by
  unfold rkTy at h ⊢
  rw [rkWc_push, if_neg (by decide), rkLf_n (by show 28 ≤ op; omega), rkWc_emit]
  rw [if_pos rfl] at h
  have m0 := h.1
  obtain ⟨τ, g1, g2, g3, g4, g5, g6⟩ := rkTz_em (op := op) (a := 0) (rkLf (rkWc c)) h
  show rkTz (rkM c + 1) (rkUp (rkFo c) (rkM c) op) (rkUp (rkFa c) (rkM c) 0) ((op, rkM c) :: rkWc c) (rkLf (rkWc c))
  refine ⟨by omega, τ, g1, fun i i0 i1 => ?_, g4, ?_, fun i i0 i1 hf ha => ?_⟩
  · by_cases hi : i = rkM c
    · rw [hi, rkUp_at, rkUp_at]
      exact Or.inr (Or.inr (Or.inr (Or.inr ⟨ho, rkLf (rkWc c), g3, g4, Or.inl rfl⟩)))
    · exact g2 i i0 (by omega)
  · unfold rkLo
    rw [if_pos (show ((op, rkM c) : Int × Int).1 = 29 ∨ ((op, rkM c) : Int × Int).1 = 30 from ho)]
    exact ⟨m0, by show rkM c < rkM c + 1; omega, rkUp_at, rkUp_at, g3, g5⟩
  · by_cases hi : i = rkM c
    · exact ⟨(op, rkM c), List.mem_cons_self, ho, hi.symm⟩
    · obtain ⟨y, y1, y2, y3⟩ := g6 i i0 (by omega) hf ha
      exact ⟨y, List.mem_cons_of_mem _ y1, y2, y3⟩
end RKTY
/-! what may wait, level by level -/
def rkSu (A : List (Int × Int)) : Prop := ∀ x ∈ A, 20 ≤ x.1 ∧ x.1 ≤ 24
def rkAn (A : List (Int × Int)) : Prop := ∀ x ∈ A, 28 ≤ x.1 ∧ x.1 ≤ 30
/-- nothing more is to be done over it -/
def rkLs (l : Int) (B : List (Int × Int)) : Prop := ∀ x ∈ B.head?, rkBd x.1 < l
theorem rkRed_1 {l : Int} {c : rkC} {x : Int × Int} {W : List (Int × Int)} (hw : rkWc c = x :: W) (h : l ≤ rkBd x.1) : rkRed l c = rkRed l (rkTop c) := by
  obtain ⟨h0, h1, -, -, -⟩ := rkWc_cons hw
  exact rkRed_y h0 (by rw [h1]; exact h)
theorem rkRed_0 {l : Int} {c : rkC} (h : rkLs l (rkWc c)) : rkRed l c = c := by
  refine rkRed_n fun q => ?_
  cases hw : rkWc c with
  | nil =>
    have := rkWc_nil hw
    omega
  | cons x W =>
    obtain ⟨-, h1, -, -, -⟩ := rkWc_cons hw
    rw [hw] at h
    have := h x rfl
    rw [h1] at q
    omega
theorem rkBd_su {v : Int} (h : 20 ≤ v ∧ v ≤ 24) : 5 ≤ rkBd v ∧ rkBd v ≤ 6 := by
  have e : v = 20 ∨ v = 21 ∨ v = 22 ∨ v = 23 ∨ v = 24 := by omega
  rcases e with rfl | rfl | rfl | rfl | rfl <;> decide
theorem rkBd_an {v : Int} (h : 28 ≤ v ∧ v ≤ 30) : 1 ≤ rkBd v ∧ rkBd v ≤ 3 := by
  have e : v = 28 ∨ v = 29 ∨ v = 30 := by omega
  rcases e with rfl | rfl | rfl <;> decide
theorem rkBd_cm {v : Int} (h : 25 ≤ v ∧ v ≤ 27) : rkBd v = 4 := by
  have e : v = 25 ∨ v = 26 ∨ v = 27 := by omega
  rcases e with rfl | rfl | rfl <;> decide
/-- sums are done -/
theorem rkRed_su {l : Int} {B : List (Int × Int)} (hB : rkLs l B) : ∀ {A : List (Int × Int)} {c : rkC}, rkWc c = A ++ B → rkSu A → rkTy c true false → ∃ A' : List (Int × Int), rkWc (rkRed l c) = A' ++ B ∧ rkSu A' ∧ rkTy (rkRed l c) true false ∧ (l ≤ 5 → A' = [])
  | [], c, hw, _, ht => ⟨[], by rw [rkRed_0 (by rw [hw]; exact hB)]; exact hw, fun x q => absurd q List.not_mem_nil, by rw [rkRed_0 (by rw [hw]; exact hB)]; exact ht, fun _ => rfl⟩
  | x :: A, c, hw, hs, ht => by
    have hw : rkWc c = x :: (A ++ B) := hw
    have hx := hs x List.mem_cons_self
    by_cases hl : l ≤ rkBd x.1
    · rw [rkRed_1 hw hl]
      have t := rkTy_bin ht hw hx.1 (by omega)
      rw [decide_eq_false (by omega)] at t
      exact rkRed_su hB (rkWc_cons hw).2.2.2.2 (fun y q => hs y (List.mem_cons_of_mem _ q)) t
    · have n : rkLs l (rkWc c) := by
        rw [hw]
        intro y q
        have e : x = y := Option.some.inj q
        rw [← e]
        omega
      rw [rkRed_0 n]
      refine ⟨x :: A, hw, hs, ht, fun h5 => ?_⟩
      have := (rkBd_su hx).1
      omega
/-- and, or, not are done -/
theorem rkRed_an {l : Int} {B : List (Int × Int)} (hB : rkLs l B) : ∀ {A : List (Int × Int)} {c : rkC}, rkWc c = A ++ B → rkAn A → rkTy c true true → ∃ A' : List (Int × Int), rkWc (rkRed l c) = A' ++ B ∧ rkAn A' ∧ rkTy (rkRed l c) true true ∧ (l ≤ 1 → A' = [])
  | [], c, hw, _, ht => ⟨[], by rw [rkRed_0 (by rw [hw]; exact hB)]; exact hw, fun x q => absurd q List.not_mem_nil, by rw [rkRed_0 (by rw [hw]; exact hB)]; exact ht, fun _ => rfl⟩
  | x :: A, c, hw, hs, ht => by
    have hw : rkWc c = x :: (A ++ B) := hw
    have hx := hs x List.mem_cons_self
    by_cases hl : l ≤ rkBd x.1
    · rw [rkRed_1 hw hl]
      have t : rkTy (rkTop c) true true := by
        by_cases h28 : x.1 = 28
        · exact rkTy_not ht hw h28
        · exact rkTy_leap ht hw (by omega)
      exact rkRed_an hB (rkWc_cons hw).2.2.2.2 (fun y q => hs y (List.mem_cons_of_mem _ q)) t
    · have n : rkLs l (rkWc c) := by
        rw [hw]
        intro y q
        have e : x = y := Option.some.inj q
        rw [← e]
        omega
      rw [rkRed_0 n]
      refine ⟨x :: A, hw, hs, ht, fun h5 => ?_⟩
      have := (rkBd_an hx).1
      omega
/-- a comparison and what lies below it -/
theorem rkRed_cmp {l : Int} {C B : List (Int × Int)} {y : Int × Int} (hB : rkLs l B) (hl : l ≤ 4) (hy : 25 ≤ y.1 ∧ y.1 ≤ 27) (hC : rkAn C) : ∀ {A : List (Int × Int)} {c : rkC}, rkWc c = A ++ y :: (C ++ B) → rkSu A → rkTy c true false → ∃ A' : List (Int × Int), rkWc (rkRed l c) = A' ++ B ∧ rkAn A' ∧ rkTy (rkRed l c) true true ∧ (l ≤ 1 → A' = [])
  | [], c, hw, _, ht => by
    have hw : rkWc c = y :: (C ++ B) := hw
    have t := rkTy_bin ht hw (by omega) hy.2
    rw [decide_eq_true hy.1] at t
    rw [rkRed_1 hw (by rw [rkBd_cm hy]; exact hl)]
    exact rkRed_an hB (rkWc_cons hw).2.2.2.2 hC t
  | x :: A, c, hw, hs, ht => by
    have hw : rkWc c = x :: (A ++ y :: (C ++ B)) := hw
    have hx := hs x List.mem_cons_self
    have t := rkTy_bin ht hw hx.1 (by omega)
    rw [decide_eq_false (by omega)] at t
    rw [rkRed_1 hw (by have := (rkBd_su hx).1; omega)]
    exact rkRed_cmp hB hl hy hC (rkWc_cons hw).2.2.2.2 (fun y q => hs y (List.mem_cons_of_mem _ q)) t
def rkSh (s : Int) (A : List (Int × Int)) : Prop := (s = 0 ∧ rkSu A) ∨ (s = 2 ∧ ∃ B C : List (Int × Int), A = B ++ C ∧ rkSu B ∧ rkAn C) ∨ (s = 3 ∧ ∃ (B C : List (Int × Int)) (y : Int × Int), A = B ++ y :: C ∧ rkSu B ∧ (25 ≤ y.1 ∧ y.1 ≤ 27) ∧ rkAn C) ∨ ((s = 1 ∨ s = 4) ∧ rkAn A)
def rkLv (test : Int) : List Int → List (Int × Int) → Prop
  | [], _ => False
  | [s], W => rkSh s W ∧ (test = 0 ↔ s = 0)
  | s :: s' :: r, W => ∃ (A B : List (Int × Int)) (x : Int × Int), W = A ++ x :: B ∧ rkSh s A ∧ ((x.1 = 31 ∧ s ≠ 0 ∧ s' = 1) ∨ (x.1 = 32 ∧ s = 0 ∧ (s' = 0 ∨ s' = 2 ∨ s' = 3))) ∧ rkLv test (s' :: r) B
/-- what lies below a level -/
def rkBt (test s : Int) (rest : List Int) (B : List (Int × Int)) : Prop := (rest = [] ∧ B = [] ∧ (test = 0 ↔ s = 0)) ∨ ∃ (s' : Int) (r : List Int) (x : Int × Int) (B' : List (Int × Int)), rest = s' :: r ∧ B = x :: B' ∧ ((x.1 = 31 ∧ s ≠ 0 ∧ s' = 1) ∨ (x.1 = 32 ∧ s = 0 ∧ (s' = 0 ∨ s' = 2 ∨ s' = 3))) ∧ rkLv test (s' :: r) B'
theorem rkLv_y {test s : Int} {rest : List Int} {W : List (Int × Int)} (h : rkLv test (s :: rest) W) : ∃ A B : List (Int × Int), W = A ++ B ∧ rkSh s A ∧ rkBt test s rest B := by
  cases rest with
  | nil => exact ⟨W, [], (List.append_nil W).symm, h.1, Or.inl ⟨rfl, rfl, h.2⟩⟩
  | cons s' r =>
    obtain ⟨A, B, x, e, h1, h2, h3⟩ := h
    exact ⟨A, x :: B, e, h1, Or.inr ⟨s', r, x, B, rfl, rfl, h2, h3⟩⟩
theorem rkLv_of {test s : Int} {rest : List Int} {A B : List (Int × Int)} (h : rkSh s A) (hb : rkBt test s rest B) : rkLv test (s :: rest) (A ++ B) := by
  rcases hb with ⟨e1, e2, e3⟩ | ⟨s', r, x, B', e1, e2, e3, e4⟩
  · subst e1
    subst e2
    rw [List.append_nil]
    exact ⟨h, e3⟩
  · subst e1
    subst e2
    exact ⟨A, B', x, rfl, h, e3, e4⟩
theorem rkBt_s {test s s2 : Int} {rest : List Int} {B : List (Int × Int)} (h : rkBt test s rest B) (e : s = 0 ↔ s2 = 0) : rkBt test s2 rest B := by
  rcases h with ⟨e1, e2, e3⟩ | ⟨s', r, x, B', e1, e2, e3, e4⟩
  · exact Or.inl ⟨e1, e2, e3.trans e⟩
  · refine Or.inr ⟨s', r, x, B', e1, e2, ?_, e4⟩
    rcases e3 with ⟨a, b, c⟩ | ⟨a, b, c⟩
    · exact Or.inl ⟨a, fun g => b (e.mpr g), c⟩
    · exact Or.inr ⟨a, e.mp b, c⟩
theorem rkBt_ls {test s l : Int} {rest : List Int} {B : List (Int × Int)} (h : rkBt test s rest B) (hl : 1 ≤ l) : rkLs l B := by
  rcases h with ⟨e1, e2, e3⟩ | ⟨s', r, x, B', e1, e2, e3, e4⟩
  · subst e2
    intro y q
    cases q
  · subst e2
    intro y q
    have e : x = y := Option.some.inj q
    rw [← e]
    unfold rkBd
    rw [if_pos (by omega)]
    omega
theorem rkLs_ap {l : Int} {C B : List (Int × Int)} (hC : ∀ x ∈ C, rkBd x.1 < l) (hB : rkLs l B) : rkLs l (C ++ B) := by
  cases C with
  | nil => exact hB
  | cons x C =>
    intro y q
    have e : x = y := Option.some.inj q
    rw [← e]
    exact hC x List.mem_cons_self
/-- the sums on top of a level -/
theorem rkSh_su {s : Int} {A B : List (Int × Int)} (h : rkSh s A) (hs : s = 0 ∨ s = 2 ∨ s = 3) (hB : rkLs 5 B) : ∃ A1 D : List (Int × Int), A = A1 ++ D ∧ rkSu A1 ∧ rkLs 5 (D ++ B) ∧ ∀ A2 : List (Int × Int), rkSu A2 → rkSh s (A2 ++ D) := by
  rcases h with ⟨e, h⟩ | ⟨e, P, C, e2, h1, h2⟩ | ⟨e, P, C, y, e2, h1, h2, h3⟩ | ⟨e, h⟩
  · exact ⟨A, [], (List.append_nil A).symm, h, hB, fun A2 g => Or.inl ⟨e, by rw [List.append_nil]; exact g⟩⟩
  · exact ⟨P, C, e2, h1, rkLs_ap (fun x q => by have := (rkBd_an (h2 x q)).2; omega) hB, fun A2 g => Or.inr (Or.inl ⟨e, A2, C, rfl, g, h2⟩)⟩
  · refine ⟨P, y :: C, e2, h1, ?_, fun A2 g => Or.inr (Or.inr (Or.inl ⟨e, A2, C, y, rfl, g, h2, h3⟩))⟩
    intro z q
    have e : y = z := Option.some.inj q
    rw [← e, rkBd_cm h2]
    omega
  · omega
theorem rkLs_mo {l l' : Int} {B : List (Int × Int)} (h : rkLs l B) (hl : l ≤ l') : rkLs l' B := fun x q => by
  have := h x q
  omega
/-- all of a level is done -/
theorem rkSh_all {l s test : Int} {rest : List Int} {A B : List (Int × Int)} {c : rkC} (hl : 1 ≤ l) (h2 : l ≤ 2) (hw : rkWc c = A ++ B) (h : rkSh s A) (hs : s = 3 ∨ s = 4) (hB : rkBt test s rest B) (ht : rkTy c true (decide (s = 4))) : ∃ A' : List (Int × Int), rkWc (rkRed l c) = A' ++ B ∧ rkAn A' ∧ rkTy (rkRed l c) true true ∧ (l ≤ 1 → A' = []) := by
  have hb := rkBt_ls hB hl
  rcases h with ⟨e, h⟩ | ⟨e, P, C, e2, h1, h2⟩ | ⟨e, P, C, y, e2, h1, h3, h4⟩ | ⟨e, h⟩
  · omega
  · omega
  · rw [decide_eq_false (by omega)] at ht
    rw [e2, List.append_assoc] at hw
    exact rkRed_cmp hb (by omega) h3 h4 hw h1 ht
  · rw [decide_eq_true (by omega)] at ht
    exact rkRed_an hb hw h ht
section RKLV
variable {T : Int → Int} {n : Int} {ws : List (List Int)} {f f' lf lf' s test : Int} {rest lv' : List Int} {pr' : Bool} {c : rkC}
/-- what a level's state is in all -/
def rkIv (test : Int) (c : rkC) (lv : List Int) (pr : Bool) : Prop := ∃ (s : Int) (rest : List Int), lv = s :: rest ∧ rkTy c pr (decide (s = 4)) ∧ rkLv test lv (rkWc c) ∧ (pr = true → s ≠ 1) ∧ (pr = false → s ≠ 4)
theorem rkSh_2 {A : List (Int × Int)} (h : rkSh s A) (h4 : s ≠ 4) : rkSh (if s = 1 then 2 else s) A := by
  by_cases h1 : s = 1
  · rw [if_pos h1]
    rcases h with ⟨e, -⟩ | ⟨e, -⟩ | ⟨e, -⟩ | ⟨-, h⟩
    · omega
    · omega
    · omega
    · exact Or.inr (Or.inl ⟨rfl, [], A, rfl, fun x q => absurd q List.not_mem_nil, h⟩)
  · rw [if_neg h1]
    exact h
theorem rkSh_r {A : List (Int × Int)} (h : rkSh s A) : s = 0 ∨ s = 1 ∨ s = 2 ∨ s = 3 ∨ s = 4 := by
  rcases h with ⟨e, -⟩ | ⟨e, -⟩ | ⟨e, -⟩ | ⟨e, -⟩ <;> omega
theorem rkIv_0 (hw : ws.length ≤ 8) (ht : rkTy c false (decide (s = 4))) (hL : rkLv test (s :: rest) (rkWc c)) (h4 : s ≠ 4) (h : rzStep T n ws f (s :: rest) false lf = (0, f', lv', pr', lf')) : rkIv test (rkSt T n ws f (s :: rest) false c) lv' pr' := by
  obtain ⟨A, B, eW, hA, hB⟩ := rkLv_y hL
  have hr := rkSh_r hA
  have h : (if rzDg T n f = true ∨ 0 ≤ rzIxn T n f ws 0 then
      (if 1000 < rzNo T n f ∨ 50 ≤ lf then (2, f, s :: rest, false, lf) else (0, rzN T n f, (if s = 1 then 2 else s) :: rest, true, lf + 1))
      else if s = 1 ∧ rzIs T n rzW_not f = true then (0, rzN T n f, s :: rest, false, lf)
      else if s = 1 ∧ rzSg T n 40 f = true then
        (if rest.length < 8 then (0, rzN T n f, 1 :: 1 :: rest, false, lf) else (2, f, s :: rest, false, lf))
      else if rzSg T n 91 f = true then
        (if rest.length < 8 then (0, rzN T n f, 0 :: (if s = 1 then 2 else s) :: rest, false, lf) else (2, f, s :: rest, false, lf))
      else ((2, f, s :: rest, false, lf) : rzA)) = (0, f', lv', pr', lf') := h
  rw [rkSt_0]
  by_cases h1 : rzDg T n f = true ∨ 0 ≤ rzIxn T n f ws 0
  · rw [if_pos h1] at h
    by_cases h2 : 1000 < rzNo T n f ∨ 50 ≤ lf
    · rw [if_pos h2] at h
      cases (congrArg (fun z : rzA => z.1) h)
    rw [if_neg h2] at h
    have e1 : (if s = 1 then 2 else s) :: rest = lv' := congrArg (fun z : rzA => z.2.2.1) h
    have e2 : true = pr' := congrArg (fun z : rzA => z.2.2.2.1) h
    subst e1
    subst e2
    have s4 : (if s = 1 then 2 else s) ≠ 4 := by split <;> omega
    have s1 : (if s = 1 then 2 else s) ≠ 1 := by split <;> omega
    have sz : s = 0 ↔ (if s = 1 then 2 else s) = 0 := by split <;> omega
    have key : ∀ op a : Int, 0 ≤ op → op ≤ 8 → rkIv test (rkEmit op a c) ((if s = 1 then 2 else s) :: rest) true := fun op a o0 o8 => by
      refine ⟨_, rest, rfl, ?_, ?_, fun _ => s1, fun g => by cases g⟩
      · rw [decide_eq_false s4]
        exact rkTy_num ht o0 o8
      · rw [rkWc_emit, eW]
        exact rkLv_of (rkSh_2 hA h4) (rkBt_s hB sz)
    by_cases h3 : rzDg T n f = true
    · rw [if_pos h3]
      exact key 0 _ (by omega) (by omega)
    · have i0 := h1.resolve_left h3
      have i1 := rzIxn_le (T := T) (n := n) (f := f) (l := ws) (k := 0) (Int.le_refl 0)
      rw [if_neg h3, if_pos i0]
      exact key _ _ (by omega) (by omega)
  rw [if_neg h1] at h
  rw [if_neg fun g => h1 (Or.inl g), if_neg fun g => h1 (Or.inr g)]
  by_cases h2 : s = 1 ∧ rzIs T n rzW_not f = true
  · rw [if_pos h2] at h ⊢
    have e1 : s :: rest = lv' := congrArg (fun z : rzA => z.2.2.1) h
    have e2 : false = pr' := congrArg (fun z : rzA => z.2.2.2.1) h
    subst e1
    subst e2
    refine ⟨s, rest, rfl, rkTy_pu0 ht (Or.inl rfl), ?_, fun g => (by cases g), fun _ => h4⟩
    rw [rkWc_push, eW]
    refine rkLv_of (A := (28, 0) :: A) ?_ hB
    rcases hA with ⟨e, -⟩ | ⟨e, -⟩ | ⟨e, -⟩ | ⟨e, h⟩
    · omega
    · omega
    · omega
    · exact Or.inr (Or.inr (Or.inr ⟨e, fun x q => by
        rcases List.mem_cons.mp q with g | g
        · rw [g]
          exact ⟨by decide, by decide⟩
        · exact h x g⟩))
  rw [if_neg h2] at h ⊢
  by_cases h3 : s = 1 ∧ rzSg T n 40 f = true
  · rw [if_pos h3] at h ⊢
    by_cases h5 : rest.length < 8
    · rw [if_pos h5] at h
      have e1 : 1 :: 1 :: rest = lv' := congrArg (fun z : rzA => z.2.2.1) h
      have e2 : false = pr' := congrArg (fun z : rzA => z.2.2.2.1) h
      subst e1
      subst e2
      refine ⟨1, 1 :: rest, rfl, rkTy_pu0 ht (Or.inr (by omega)), ?_, fun g => (by cases g), fun _ => by omega⟩
      rw [rkWc_push]
      have hs := h3.1
      subst hs
      exact ⟨[], rkWc c, (31, 0), rfl, Or.inr (Or.inr (Or.inr ⟨Or.inl rfl, fun x q => absurd q List.not_mem_nil⟩)), Or.inl ⟨rfl, by omega, rfl⟩, hL⟩
    · rw [if_neg h5] at h
      cases (congrArg (fun z : rzA => z.1) h)
  rw [if_neg h3] at h ⊢
  by_cases h6 : rzSg T n 91 f = true
  · rw [if_pos h6] at h
    by_cases h5 : rest.length < 8
    · rw [if_pos h5] at h
      have e1 : 0 :: (if s = 1 then 2 else s) :: rest = lv' := congrArg (fun z : rzA => z.2.2.1) h
      have e2 : false = pr' := congrArg (fun z : rzA => z.2.2.2.1) h
      subst e1
      subst e2
      refine ⟨0, (if s = 1 then 2 else s) :: rest, rfl, rkTy_pu0 ht (Or.inr (by omega)), ?_, fun g => (by cases g), fun _ => by omega⟩
      rw [rkWc_push]
      refine ⟨[], rkWc c, (32, 0), rfl, Or.inl ⟨rfl, fun x q => absurd q List.not_mem_nil⟩, Or.inr ⟨rfl, rfl, by split <;> omega⟩, ?_⟩
      rw [eW]
      exact rkLv_of (rkSh_2 hA h4) (rkBt_s hB (by split <;> omega))
    · rw [if_neg h5] at h
      cases (congrArg (fun z : rzA => z.1) h)
  · rw [if_neg h6] at h
    cases (congrArg (fun z : rzA => z.1) h)
theorem rkIv_1 (ht : rkTy c true (decide (s = 4))) (hL : rkLv test (s :: rest) (rkWc c)) (h1 : s ≠ 1) : (∀ (f' lf' : Int) (lv' : List Int) (pr' : Bool), rzStep T n ws f (s :: rest) true lf = (0, f', lv', pr', lf') → rkIv test (rkSt T n ws f (s :: rest) true c) lv' pr') ∧ (∀ (f' lf' : Int) (lv' : List Int) (pr' : Bool), rzStep T n ws f (s :: rest) true lf = (1, f', lv', pr', lf') → rkTy (rkRed 1 c) true (decide (test ≠ 0)) ∧ rkWc (rkRed 1 c) = []) := by
  obtain ⟨A, B, eW, hA, hB⟩ := rkLv_y hL
  have hr := rkSh_r hA
  have hu : rzStep T n ws f (s :: rest) true lf = (if rest ≠ [] ∧ s = 0 ∧ rzSg T n 93 f = true then (0, rzN T n f, rest, true, lf)
      else if rest ≠ [] ∧ (s = 3 ∨ s = 4) ∧ rzSg T n 41 f = true then (0, rzN T n f, 4 :: rest.tail, true, lf)
      else if (s = 3 ∨ s = 4) ∧ (rzIs T n rzW_and f = true ∨ rzIs T n rzW_or f = true) then (0, rzN T n f, 1 :: rest, false, lf)
      else if s ≠ 4 ∧ f < n ∧ (T f = 43 ∨ T f = 45 ∨ T f = 42 ∨ T f = 47 ∨ T f = 37) then (0, rzN T n f, s :: rest, false, lf)
      else if s = 2 ∧ f < n ∧ (T f = 60 ∨ T f = 62 ∨ T f = 61) then (0, rzN T n f, 3 :: rest, false, lf)
      else if rest = [] ∧ s ≠ 1 ∧ s ≠ 2 then (1, f, s :: rest, true, lf)
      else ((2, f, s :: rest, true, lf) : rzA)) := rfl
  rw [hu, rkSt_1]
  by_cases c1 : rest ≠ [] ∧ s = 0 ∧ rzSg T n 93 f = true
  · rw [if_pos c1, if_pos c1]
    refine ⟨fun f' lf' lv' pr' h => ?_, fun f' lf' lv' pr' h => by cases (congrArg (fun z : rzA => z.1) h)⟩
    have e1 : rest = lv' := congrArg (fun z : rzA => z.2.2.1) h
    have e2 : true = pr' := congrArg (fun z : rzA => z.2.2.2.1) h
    subst e1
    subst e2
    rcases hB with ⟨b1, -, -⟩ | ⟨s', r, x, B', b1, b2, b3, b4⟩
    · exact absurd b1 c1.1
    · have hx : x.1 = 32 ∧ (s' = 0 ∨ s' = 2 ∨ s' = 3) := by
        rcases b3 with ⟨g, g2, g3⟩ | ⟨g, g2, g3⟩
        · exact absurd c1.2.1 g2
        · exact ⟨g, g3⟩
      rcases hA with ⟨e, hA⟩ | ⟨e, -⟩ | ⟨e, -⟩ | ⟨e, -⟩
      · rw [decide_eq_false (by omega)] at ht
        have hb : rkLs 1 B := by
          subst b2
          intro y q
          have e : x = y := Option.some.inj q
          rw [← e]
          unfold rkBd
          rw [if_pos (by omega)]
          omega
        obtain ⟨A', w1, w2, w3, w4⟩ := rkRed_su (l := 1) hb eW hA ht
        rw [w4 (by omega), List.nil_append, b2] at w1
        refine ⟨s', r, b1, ?_, ?_, fun _ => by omega, fun g => by cases g⟩
        · rw [decide_eq_false (by omega)]
          exact rkTy_pop w3 w1 (by omega)
        · rw [(rkWc_cons w1).2.2.2.1, b1]
          exact b4
      · omega
      · omega
      · omega
  rw [if_neg c1, if_neg c1]
  by_cases c2 : rest ≠ [] ∧ (s = 3 ∨ s = 4) ∧ rzSg T n 41 f = true
  · rw [if_pos c2, if_pos c2]
    refine ⟨fun f' lf' lv' pr' h => ?_, fun f' lf' lv' pr' h => by cases (congrArg (fun z : rzA => z.1) h)⟩
    have e1 : 4 :: rest.tail = lv' := congrArg (fun z : rzA => z.2.2.1) h
    have e2 : true = pr' := congrArg (fun z : rzA => z.2.2.2.1) h
    subst e1
    subst e2
    obtain ⟨A', w1, w2, w3, w4⟩ := rkSh_all (l := 1) (by omega) (by omega) eW hA c2.2.1 hB ht
    rcases hB with ⟨b1, -, -⟩ | ⟨s', r, x, B', b1, b2, b3, b4⟩
    · exact absurd b1 c2.1
    · have hx : x.1 = 31 ∧ s' = 1 := by
        rcases b3 with ⟨g, g2, g3⟩ | ⟨g, g2, g3⟩
        · exact ⟨g, g3⟩
        · omega
      rw [w4 (by omega), List.nil_append, b2] at w1
      have hs_p := hx.2
      subst hs_p
      subst b1
      refine ⟨4, r, rfl, ?_, ?_, fun _ => by omega, fun g => by cases g⟩
      · rw [decide_eq_true rfl]
        exact rkTy_pop w3 w1 (by omega)
      · rw [(rkWc_cons w1).2.2.2.1]
        obtain ⟨A2, B2, k1, k2, k3⟩ := rkLv_y b4
        rw [k1]
        refine rkLv_of (s := 4) ?_ (rkBt_s k3 (by omega))
        rcases k2 with ⟨e, -⟩ | ⟨e, -⟩ | ⟨e, -⟩ | ⟨-, k2⟩
        · omega
        · omega
        · omega
        · exact Or.inr (Or.inr (Or.inr ⟨Or.inr rfl, k2⟩))
  rw [if_neg c2, if_neg c2]
  by_cases c3 : (s = 3 ∨ s = 4) ∧ (rzIs T n rzW_and f = true ∨ rzIs T n rzW_or f = true)
  · rw [if_pos c3]
    refine ⟨fun f' lf' lv' pr' h => ?_, fun f' lf' lv' pr' h => by cases (congrArg (fun z : rzA => z.1) h)⟩
    have e1 : 1 :: rest = lv' := congrArg (fun z : rzA => z.2.2.1) h
    have e2 : false = pr' := congrArg (fun z : rzA => z.2.2.2.1) h
    subst e1
    subst e2
    have key : ∀ l op : Int, 1 ≤ l → l ≤ 2 → op = 29 ∨ op = 30 → rkIv test (rkPush op (rkM (rkRed l c)) (rkEmit op 0 (rkRed l c))) (1 :: rest) false := fun l op l1 l2 ho => by
      obtain ⟨A', w1, w2, w3, w4⟩ := rkSh_all l1 l2 eW hA c3.1 hB ht
      refine ⟨1, rest, rfl, rkTy_and w3 ho, ?_, fun g => (by cases g), fun _ => by omega⟩
      rw [rkWc_push, rkWc_emit, w1]
      refine rkLv_of (A := (op, rkM (rkRed l c)) :: A') (Or.inr (Or.inr (Or.inr ⟨Or.inl rfl, fun x q => ?_⟩))) (rkBt_s hB (by omega))
      rcases List.mem_cons.mp q with g | g
      · rw [g]
        show 28 ≤ op ∧ op ≤ 30
        omega
      · exact w2 x g
    by_cases ha : (s = 3 ∨ s = 4) ∧ rzIs T n rzW_and f = true
    · rw [if_pos ha]
      exact key 2 29 (by omega) (by omega) (Or.inl rfl)
    · rw [if_neg ha, if_pos ⟨c3.1, c3.2.resolve_left fun g => ha ⟨c3.1, g⟩⟩]
      exact key 1 30 (by omega) (by omega) (Or.inr rfl)
  rw [if_neg c3, if_neg (show ¬ ((s = 3 ∨ s = 4) ∧ rzIs T n rzW_and f = true) from fun g => c3 ⟨g.1, Or.inl g.2⟩), if_neg (show ¬ ((s = 3 ∨ s = 4) ∧ rzIs T n rzW_or f = true) from fun g => c3 ⟨g.1, Or.inr g.2⟩)]
  by_cases c4 : s ≠ 4 ∧ f < n ∧ (T f = 43 ∨ T f = 45 ∨ T f = 42 ∨ T f = 47 ∨ T f = 37)
  · rw [if_pos c4]
    refine ⟨fun f' lf' lv' pr' h => ?_, fun f' lf' lv' pr' h => by cases (congrArg (fun z : rzA => z.1) h)⟩
    have e1 : s :: rest = lv' := congrArg (fun z : rzA => z.2.2.1) h
    have e2 : false = pr' := congrArg (fun z : rzA => z.2.2.2.1) h
    subst e1
    subst e2
    rw [decide_eq_false c4.1] at ht
    obtain ⟨A1, D, a1, a2, a3, a4⟩ := rkSh_su hA (by omega) (rkBt_ls hB (l := 5) (by omega))
    have key : ∀ l op : Int, 5 ≤ l → 20 ≤ op → op ≤ 24 → rkIv test (rkPush op 0 (rkRed l c)) (s :: rest) false := fun l op l5 o0 o4 => by
      rw [a1, List.append_assoc] at eW
      obtain ⟨A', w1, w2, w3, w4⟩ := rkRed_su (l := l) (rkLs_mo a3 l5) eW a2 ht
      refine ⟨s, rest, rfl, rkTy_pu2 w3 o0 (by omega), ?_, fun g => (by cases g), fun _ => c4.1⟩
      rw [rkWc_push, w1, ← List.append_assoc]
      refine rkLv_of (A := (op, 0) :: (A' ++ D)) (a4 ((op, 0) :: A') fun x q => ?_) hB
      rcases List.mem_cons.mp q with g | g
      · rw [g]
        exact ⟨o0, o4⟩
      · exact w2 x g
    by_cases k1 : T f = 43
    · rw [if_pos k1]
      exact key 5 20 (by omega) (by omega) (by omega)
    rw [if_neg k1]
    by_cases k2 : T f = 45
    · rw [if_pos k2]
      exact key 5 21 (by omega) (by omega) (by omega)
    rw [if_neg k2]
    by_cases k3 : T f = 42
    · rw [if_pos k3]
      exact key 6 22 (by omega) (by omega) (by omega)
    rw [if_neg k3]
    by_cases k4 : T f = 47
    · rw [if_pos k4]
      exact key 6 23 (by omega) (by omega) (by omega)
    rw [if_neg k4, if_pos (by omega)]
    exact key 6 24 (by omega) (by omega) (by omega)
  rw [if_neg c4]
  by_cases c5 : s = 2 ∧ f < n ∧ (T f = 60 ∨ T f = 62 ∨ T f = 61)
  · rw [if_pos c5]
    refine ⟨fun f' lf' lv' pr' h => ?_, fun f' lf' lv' pr' h => by cases (congrArg (fun z : rzA => z.1) h)⟩
    have e1 : 3 :: rest = lv' := congrArg (fun z : rzA => z.2.2.1) h
    have e2 : false = pr' := congrArg (fun z : rzA => z.2.2.2.1) h
    subst e1
    subst e2
    rw [decide_eq_false (by omega)] at ht
    rw [if_neg (by omega), if_neg (by omega), if_neg (by omega), if_neg (by omega), if_neg (by omega)]
    rcases hA with ⟨e, -⟩ | ⟨-, P, C, a1, a2, a3⟩ | ⟨e, -⟩ | ⟨e, -⟩
    · omega
    · have key : ∀ op : Int, 25 ≤ op → op ≤ 27 → rkIv test (rkPush op 0 (rkRed 4 c)) (3 :: rest) false := fun op o0 o4 => by
        rw [a1, List.append_assoc] at eW
        obtain ⟨A', w1, w2, w3, w4⟩ := rkRed_su (l := 4) (rkLs_ap (fun x q => by have := (rkBd_an (a3 x q)).2; omega) (rkBt_ls hB (by omega))) eW a2 ht
        rw [w4 (by omega), List.nil_append] at w1
        refine ⟨3, rest, rfl, rkTy_pu2 w3 (by omega) o4, ?_, fun g => (by cases g), fun _ => by omega⟩
        rw [rkWc_push, w1]
        exact rkLv_of (A := (op, 0) :: C) (Or.inr (Or.inr (Or.inl ⟨rfl, [], C, (op, 0), rfl, fun x q => absurd q List.not_mem_nil, ⟨o0, o4⟩, a3⟩))) (rkBt_s hB (by omega))
      by_cases k1 : T f = 60
      · rw [if_pos k1]
        exact key 25 (by omega) (by omega)
      rw [if_neg k1]
      by_cases k2 : T f = 62
      · rw [if_pos k2]
        exact key 26 (by omega) (by omega)
      rw [if_neg k2]
      exact key 27 (by omega) (by omega)
    · omega
    · omega
  rw [if_neg c5]
  by_cases c6 : rest = [] ∧ s ≠ 1 ∧ s ≠ 2
  · rw [if_pos c6]
    refine ⟨fun f' lf' lv' pr' h => (by cases (congrArg (fun z : rzA => z.1) h)), fun f' lf' lv' pr' h => ?_⟩
    rcases id hB with ⟨-, b2, b3⟩ | ⟨s', r, x, B', b1, b2, -⟩
    · by_cases hs : s = 0
      · rw [decide_eq_false (by omega)] at ht
        rw [decide_eq_false (by omega)]
        rcases hA with ⟨-, hA⟩ | ⟨e, -⟩ | ⟨e, -⟩ | ⟨e, -⟩
        · obtain ⟨A', w1, w2, w3, w4⟩ := rkRed_su (l := 1) (rkBt_ls hB (by omega)) eW hA ht
          rw [w4 (by omega), b2] at w1
          exact ⟨w3, w1⟩
        · omega
        · omega
        · omega
      · rw [decide_eq_true (show test ≠ 0 by omega)]
        obtain ⟨A', w1, w2, w3, w4⟩ := rkSh_all (l := 1) (by omega) (by omega) eW hA (by omega) hB ht
        rw [w4 (by omega), b2] at w1
        exact ⟨w3, w1⟩
    · rw [c6.1] at b1
      cases b1
  · rw [if_neg c6]
    exact ⟨fun f' lf' lv' pr' h => (by cases (congrArg (fun z : rzA => z.1) h)), fun f' lf' lv' pr' h => by cases (congrArg (fun z : rzA => z.1) h)⟩
end RKLV
/-- the code of an expression that is whole -/
def rkWt (d : rkC) (b : Bool) : Prop := 0 ≤ rkM d ∧ ∃ τ : Int → List Bool, τ 0 = [] ∧ (∀ i : Int, 0 ≤ i → i < rkM d → rkRu τ (rkM d) i (rkFo d i) (rkFa d i) ∧ ((rkFo d i = 29 ∨ rkFo d i = 30) → rkFa d i ≠ 0)) ∧ τ (rkM d) = [b]
theorem rkWt_of {d : rkC} {b : Bool} (h : rkTy d true b) (hw : rkWc d = []) : rkWt d b := by
  unfold rkTy at h
  rw [hw, if_pos rfl] at h
  obtain ⟨m0, τ, h1, h2, h3, -, h5⟩ := h
  refine ⟨m0, τ, h1, fun i i0 i1 => ⟨h2 i i0 i1, fun ho ha => ?_⟩, h3⟩
  obtain ⟨x, x1, -⟩ := h5 i i0 i1 ho ha
  cases x1
theorem rkRun_t {T : Int → Int} {n test : Int} {ws : List (List Int)} (hw : ws.length ≤ 8) {d : rkC} : ∀ (k : Nat) (f : Int) (lv : List Int) (pr : Bool) (lf : Int) (c : rkC), rkRun T n ws k f lv pr lf c = some d → rkIv test c lv pr → rkWt d (decide (test ≠ 0))
  | 0, f, lv, pr, lf, c, h, _ => by cases h
  | k + 1, f, lv, pr, lf, c, h, hi => by
    have h : (match rzStep T n ws f lv pr lf with
      | (0, f', lv', pr', lf') => rkRun T n ws k f' lv' pr' lf' (rkSt T n ws f lv pr c)
      | (1, _, _, _, _) => some (rkRed 1 c)
      | _ => none) = some d := h
    obtain ⟨s, rest, e, ht, hL, p1, p0⟩ := hi
    subst e
    match hs : rzStep T n ws f (s :: rest) pr lf, h with
    | (0, f', lv', pr', lf'), h =>
      refine rkRun_t hw k f' lv' pr' lf' _ h ?_
      cases pr with
      | true => exact (rkIv_1 ht hL (p1 rfl)).1 _ _ _ _ hs
      | false => exact rkIv_0 hw ht hL (p0 rfl) hs
    | (1, _, _, _, _), h =>
      cases pr with
      | true =>
        have e : rkRed 1 c = d := Option.some.inj h
        rw [← e]
        have q := (rkIv_1 ht hL (p1 rfl)).2 _ _ _ _ hs
        exact rkWt_of q.1 q.2
      | false => exact absurd hs rzStep_n1
    | (q + 2, _, _, _, _), h => cases h
theorem rkEx_t {T : Int → Int} {n test f lf : Int} {ws : List (List Int)} {d : rkC} (hw : ws.length ≤ 8) (ht : test = 0 ∨ test = 1) (h : rkEx T n ws test f lf d) : rkWt d (decide (test ≠ 0)) := by
  obtain ⟨k, hk⟩ := h
  refine rkRun_t hw k f [test] false lf rkC0 hk ⟨test, [], rfl, ?_, ⟨?_, Iff.rfl⟩, fun g => (by cases g), fun _ => by omega⟩
  · refine ⟨Int.le_refl 0, fun _ => [], rfl, fun i i0 i1 => ?_, rfl, trivial, fun i i0 i1 => ?_⟩
    · have i1 : i < 0 := i1
      omega
    · have i1 : i < 0 := i1
      omega
  · rcases ht with rfl | rfl
    · exact Or.inl ⟨rfl, fun x q => absurd q List.not_mem_nil⟩
    · exact Or.inr (Or.inr (Or.inr ⟨Or.inl rfl, fun x q => absurd q List.not_mem_nil⟩))
end
section
/-! WHAT CODE TELLS: its value, or that it is broken -/
def rkBi (op a b : Int) : Option Int := if op = 20 then some (a + b) else if op = 21 then some (a - b) else if op = 22 then some (a * b) else if op = 23 then (if b = 0 then none else some (a.tdiv b)) else if op = 24 then (if b = 0 then none else some (a.tmod b)) else if op = 25 then some (if a < b then 1 else 0) else if op = 26 then some (if b < a then 1 else 0) else some (if a = b then 1 else 0)
def rkLm : Option Int → Option Int
  | none => none
  | some x => if -1000000000 ≤ x ∧ x ≤ 1000000000 then some x else none
/-- from place i on, over what stands (the topmost first); none: not over yet; some none: broken -/
def rkVl (d : rkC) (vs : Int → Int) : Nat → Int → List Int → Option (Option (List Int))
  | 0, _, _ => none
  | k + 1, i, st =>
    if rkM d ≤ i then some (some st)
    else if rkFo d i ≤ 8 then rkVl d vs k (i + 1) ((if rkFo d i = 0 then rkFa d i else vs (rkFo d i)) :: st)
    else match st with
      | [] => some none
      | x :: st1 =>
        if rkFo d i = 28 then rkVl d vs k (i + 1) ((1 - x) :: st1)
        else if rkFo d i = 29 ∨ rkFo d i = 30 then (if x = (if rkFo d i = 30 then 1 else 0) then rkVl d vs k (rkFa d i) (x :: st1) else rkVl d vs k (i + 1) st1)
        else match st1 with
          | [] => some none
          | y :: st2 => match rkLm (rkBi (rkFo d i) y x) with
            | none => some none
            | some z => rkVl d vs k (i + 1) (z :: st2)
def rkEv (d : rkC) (vs : Int → Int) (i : Int) (st : List Int) (r : Option (List Int)) : Prop := ∃ k : Nat, rkVl d vs k i st = some r
theorem rkVl_s {d : rkC} {vs : Int → Int} {r : Option (List Int)} : ∀ (k : Nat) (i : Int) (st : List Int), rkVl d vs k i st = some r → rkVl d vs (k + 1) i st = some r
  | 0, i, st, h => by cases h
  | k + 1, i, st, h => by
    unfold rkVl at h ⊢
    by_cases h1 : rkM d ≤ i
    · rw [if_pos h1] at h ⊢
      exact h
    rw [if_neg h1] at h ⊢
    by_cases h2 : rkFo d i ≤ 8
    · rw [if_pos h2] at h ⊢
      exact rkVl_s k _ _ h
    rw [if_neg h2] at h ⊢
    cases st with
    | nil => exact h
    | cons x st1 =>
      simp only at h ⊢
      by_cases h3 : rkFo d i = 28
      · rw [if_pos h3] at h ⊢
        exact rkVl_s k _ _ h
      rw [if_neg h3] at h ⊢
      by_cases h4 : rkFo d i = 29 ∨ rkFo d i = 30
      · rw [if_pos h4] at h ⊢
        by_cases h5 : x = (if rkFo d i = 30 then 1 else 0)
        · rw [if_pos h5] at h ⊢
          exact rkVl_s k _ _ h
        · rw [if_neg h5] at h ⊢
          exact rkVl_s k _ _ h
      rw [if_neg h4] at h ⊢
      cases st1 with
      | nil => exact h
      | cons y st2 =>
        simp only at h ⊢
        cases h6 : rkLm (rkBi (rkFo d i) y x) with
        | none =>
          rw [h6] at h
          exact h
        | some z =>
          rw [h6] at h
          exact rkVl_s k _ _ h
theorem rkVl_m {d : rkC} {vs : Int → Int} {r : Option (List Int)} {k : Nat} {i : Int} {st : List Int} (h : rkVl d vs k i st = some r) : ∀ j : Nat, rkVl d vs (k + j) i st = some r
  | 0 => h
  | j + 1 => rkVl_s _ _ _ (rkVl_m h j)
theorem rkEv_det {d : rkC} {vs : Int → Int} {r r_p : Option (List Int)} {i : Int} {st : List Int} (h : rkEv d vs i st r) (h' : rkEv d vs i st r_p) : r = r_p := by
  obtain ⟨k, hk⟩ := h
  obtain ⟨j, hj⟩ := h'
  have a := rkVl_m hk j
  have b := rkVl_m hj k
  rw [Nat.add_comm j k] at b
  exact Option.some.inj (a.symm.trans b)
section RKEV
variable {d : rkC} {vs : Int → Int} {i x y z : Int} {st : List Int} {r : Option (List Int)}
theorem rkEv_end (h : rkM d ≤ i) : rkEv d vs i st (some st) := by
  refine ⟨1, ?_⟩
  unfold rkVl
  rw [if_pos h]
theorem rkEv_num (h : i < rkM d) (h2 : rkFo d i ≤ 8) (g : rkEv d vs (i + 1) ((if rkFo d i = 0 then rkFa d i else vs (rkFo d i)) :: st) r) : rkEv d vs i st r := by
  obtain ⟨k, hk⟩ := g
  refine ⟨k + 1, ?_⟩
  unfold rkVl
  rw [if_neg (by omega), if_pos h2]
  exact hk
theorem rkEv_not (h : i < rkM d) (h2 : rkFo d i = 28) (g : rkEv d vs (i + 1) ((1 - x) :: st) r) : rkEv d vs i (x :: st) r := by
  obtain ⟨k, hk⟩ := g
  refine ⟨k + 1, ?_⟩
  unfold rkVl
  rw [if_neg (by omega), if_neg (by omega)]
  simp only
  rw [if_pos h2]
  exact hk
theorem rkEv_leap (h : i < rkM d) (h2 : rkFo d i = 29 ∨ rkFo d i = 30) (hx : x = (if rkFo d i = 30 then 1 else 0)) (g : rkEv d vs (rkFa d i) (x :: st) r) : rkEv d vs i (x :: st) r := by
  obtain ⟨k, hk⟩ := g
  refine ⟨k + 1, ?_⟩
  unfold rkVl
  rw [if_neg (by omega), if_neg (by omega)]
  simp only
  rw [if_neg (by omega), if_pos h2, if_pos hx]
  exact hk
theorem rkEv_drop (h : i < rkM d) (h2 : rkFo d i = 29 ∨ rkFo d i = 30) (hx : ¬ x = (if rkFo d i = 30 then 1 else 0)) (g : rkEv d vs (i + 1) st r) : rkEv d vs i (x :: st) r := by
  obtain ⟨k, hk⟩ := g
  refine ⟨k + 1, ?_⟩
  unfold rkVl
  rw [if_neg (by omega), if_neg (by omega)]
  simp only
  rw [if_neg (by omega), if_pos h2, if_neg hx]
  exact hk
theorem rkEv_two (h : i < rkM d) (h2 : 9 ≤ rkFo d i ∧ rkFo d i ≤ 27) (hz : rkLm (rkBi (rkFo d i) y x) = some z) (g : rkEv d vs (i + 1) (z :: st) r) : rkEv d vs i (x :: y :: st) r := by
  obtain ⟨k, hk⟩ := g
  refine ⟨k + 1, ?_⟩
  unfold rkVl
  rw [if_neg (by omega), if_neg (by omega)]
  simp only
  rw [if_neg (by omega), if_neg (by omega), hz]
  exact hk
theorem rkEv_brk (h : i < rkM d) (h2 : 9 ≤ rkFo d i ∧ rkFo d i ≤ 27) (hz : rkLm (rkBi (rkFo d i) y x) = none) : rkEv d vs i (x :: y :: st) none := by
  refine ⟨1, ?_⟩
  unfold rkVl
  rw [if_neg (by omega), if_neg (by omega)]
  simp only
  rw [if_neg (by omega), if_neg (by omega), hz]
end RKEV
/-- what stands, in a row: the topmost at n - 1; no one is too large for its long -/
def rkSk (R : Int → Int) : Int → List Int → Prop
  | n, [] => n = 0
  | n, x :: st => 0 < n ∧ R (n - 1) = x ∧ (-2147483648 ≤ x ∧ x ≤ 2147483649) ∧ rkSk R (n - 1) st
theorem rkSk_le {R : Int → Int} : ∀ {st : List Int} {n : Int}, rkSk R n st → n = (st.length : Int)
  | [], n, h => h
  | x :: st, n, h => by
    have := rkSk_le h.2.2.2
    simp only [List.length_cons]
    omega
theorem rkSk_cg {R R' : Int → Int} : ∀ {st : List Int} {n : Int}, (∀ j : Int, 0 ≤ j → j < n → R' j = R j) → rkSk R n st → rkSk R' n st
  | [], _, _, h => h
  | x :: st, n, e, h => ⟨h.1, (e _ (by have := h.1; omega) (by omega)).trans h.2.1, h.2.2.1, rkSk_cg (fun j a b => e j a (by omega)) h.2.2.2⟩
theorem rkSk_pu {R R' : Int → Int} {st : List Int} {n x : Int} (h : rkSk R n st) (n0 : 0 ≤ n) (e : ∀ j : Int, 0 ≤ j → j < n → R' j = R j) (ex : R' n = x) (b : -2147483648 ≤ x ∧ x ≤ 2147483649) : rkSk R' (n + 1) (x :: st) :=
  ⟨by omega, by rw [show n + 1 - 1 = n by omega]; exact ex, b, by rw [show n + 1 - 1 = n by omega]; exact rkSk_cg e h⟩
theorem rkSk_rp {R R' : Int → Int} {st : List Int} {n x z : Int} (h : rkSk R n (x :: st)) (e : ∀ j : Int, 0 ≤ j → j < n - 1 → R' j = R j) (ez : R' (n - 1) = z) (b : -2147483648 ≤ z ∧ z ≤ 2147483649) : rkSk R' n (z :: st) :=
  ⟨h.1, ez, b, rkSk_cg e h.2.2.2⟩
end
section
/-! LONGS: all five operations, by hand with their exact answers -/
def bx_opvM (o : Nat) (a b : Int) : Int := if o = 40 then a + b else if o = 41 then a - b else if o = 42 then a * b else if o = 43 then a.tdiv b else a.tmod b
def bx_rgM (a : Int) : Prop := -9223372036854775808 ≤ a ∧ a ≤ 9223372036854775807
def bx_opcM (o : Nat) (a b : Int) : Prop := bx_rgM a ∧ bx_rgM b ∧ (o = 40 → bx_rgM (a + b)) ∧ (o = 41 → bx_rgM (a - b)) ∧ (o = 42 → bx_rgM (a * b)) ∧ (o = 43 ∨ o = 44 → b ≠ 0 ∧ -9223372036854775807 ≤ a)
def bx_mdM (o : Nat) (x y : Int64) : Int64 := if o = 40 then x + y else if o = 41 then x - y else if o = 42 then x * y else if o = 43 then x / y else x - x / y * y
theorem bx_opvM_ok {o : Nat} (ho : o = 40 ∨ o = 41 ∨ o = 42 ∨ o = 43 ∨ o = 44) {a b : Int} (h : bx_opcM o a b) : (bx_mdM o (Int64.ofInt a) (Int64.ofInt b)).toInt = bx_opvM o a b := by
  obtain ⟨ha, hb, h0, h1, h2, h3⟩ := h
  unfold bx_mdM bx_opvM
  rcases ho with rfl | rfl | rfl | rfl | rfl
  · show (Int64.ofInt a + Int64.ofInt b).toInt = a + b
    rw [Int64.toInt_add, bx_toL ha, bx_toL hb, bx_bmodL (h0 rfl)]
  · show (Int64.ofInt a - Int64.ofInt b).toInt = a - b
    rw [Int64.toInt_sub, bx_toL ha, bx_toL hb, bx_bmodL (h1 rfl)]
  · show (Int64.ofInt a * Int64.ofInt b).toInt = a * b
    rw [Int64.toInt_mul, bx_toL ha, bx_toL hb, bx_bmodL (h2 rfl)]
  · show (Int64.ofInt a / Int64.ofInt b).toInt = a.tdiv b
    obtain ⟨b0, a1⟩ := h3 (Or.inl rfl)
    rw [Int64.toInt_div, bx_toL ha, bx_toL hb]
    have l : (a.tdiv b).natAbs ≤ a.natAbs := by
      rw [Int.natAbs_tdiv]
      exact Nat.div_le_self _ _
    have a2 := ha.2
    exact bx_bmodL ⟨by omega, by omega⟩
  · show (Int64.ofInt a - Int64.ofInt a / Int64.ofInt b * Int64.ofInt b).toInt = a.tmod b
    obtain ⟨b0, a1⟩ := h3 (Or.inr rfl)
    have l : (a.tdiv b).natAbs ≤ a.natAbs := by
      rw [Int.natAbs_tdiv]
      exact Nat.div_le_self _ _
    have p : (a.tdiv b * b).natAbs ≤ a.natAbs := by
      rw [Int.natAbs_mul, Int.natAbs_tdiv]
      exact Nat.div_mul_le_self _ _
    have r : (a.tmod b).natAbs ≤ a.natAbs := by
      rw [Int.natAbs_tmod]
      exact Nat.mod_le _ _
    have q : a - a.tdiv b * b = a.tmod b := by
      rw [Int.tmod_def, Int.mul_comm]
    have a2 := ha.2
    rw [Int64.toInt_sub, Int64.toInt_mul, Int64.toInt_div, bx_toL ha, bx_toL hb, bx_bmodL (a := a.tdiv b) ⟨by omega, by omega⟩, bx_bmodL (a := a.tdiv b * b) ⟨by omega, by omega⟩, q]
    exact bx_bmodL ⟨by omega, by omega⟩
section RKOP
variable {PX : State → Prop} {Dg : va_G} {A : Nat → Prop} {ad xa : Nat → Nat} {l : Launch} {X : (Nat → Int → Int) → Prop}
variable {p : Program} {e : Env} {R : Room} {s : State} {m : MethodId} {args : Array Value} {below : List Frame} {meth : Method} {c : Code} {Q : State → Prop} {H0 : Heap}
def rx_obBM (X : (Nat → Int → Int) → Prop) (Sin : Nat → Int → Int) (ms : List (Nat × Nat)) (inv : Nat → bx_SP) (mea : Nat → (Nat → Int → Int) → (Nat → Int) → Nat) (i i_p : Nat) (z : rx_Z) (o : Nat) (a b : rx_E) (lo hi : Int) : Prop :=
  ∀ (S : Nat → Int → Int) (r : Nat → Int), inv i S r → X S → bx_Inv rxL S → bx_same rxL (bx_mdl ms) Sin S → rx_sat z.1 r → rx_facts z.2.1 r →
    bx_opcM o (rx_ev r a) (rx_ev r b) ∧ ∀ r_p : Nat → Int, rx_same z.1.length r r_p → r_p 0 = 0 → r_p z.1.length = bx_opvM o (rx_ev r a) (rx_ev r b) → (lo ≤ r_p z.1.length ∧ r_p z.1.length ≤ hi) ∧ inv i_p S r_p ∧ mea i_p S r_p < mea i S r
theorem rx_stepBM {M : rx_Mt} {tab : List bx_HE} {inv : Nat → bx_SP} {mea : Nat → (Nat → Int → Int) → (Nat → Int) → Nat} {Sin : Nat → Int → Int} {ms : List (Nat × Nat)} {i i_p o : Nat} {ins : Instr} {z : rx_Z} {os : List bx_HO} {es : List (rx_End × List (Nat × Int × Int))} {q_p : bx_HE} {a b : rx_E} {lo hi : Int} {t : List rx_V}
    (hF : rx_Fr rxG rxNW rxAO PX p s m args meth c M) (ho : (o = 40 ∧ ins = .ladd) ∨ (o = 41 ∧ ins = .lsub) ∨ (o = 42 ∧ ins = .lmul) ∨ (o = 43 ∧ ins = .ldiv) ∨ (o = 44 ∧ ins = .lrem)) (hdg : decode M.2.1 (rx_zpc z) = .ok (ins, 1)) (hne : bx_noE z.2.2.1 = true) (hst : rx_zst z = .inr (1, b) :: .inr (1, a) :: t)
    (htab : tab[i_p]? = some q_p) (hq' : rx_nxI (z.1 ++ [(lo, hi)]) z 1 (.inr (1, (z.1.length, 0)) :: t) = q_p.1) (hob : rx_obBM X Sin ms inv mea i i_p z o a b lo hi) :
    bx_Step p l e R s m args below meth c Q Dg rxL X vwCl A xa H0 ad M tab inv mea Sin ms i (z, os, es) := by
  intro S r H locs ls hinv hXS hsin hR K
  obtain ⟨Sq, ⟨ws0, tys0, hInv0, hrest0⟩, -, ⟨-, hch0⟩, -⟩ := id hR.2.2.2.1
  have eSq : Sq = S := bx_noE_eq hne (hch0 rfl)
  rw [eSq] at hInv0
  have hInv0 : bx_Inv rxL S := hInv0
  obtain ⟨o1, o2⟩ := hob S r hinv hXS hInv0 hsin hR.1 hR.2.1
  have hv := bx_opvM_ok (by rcases ho with h | h | h | h | h <;> omega) o1
  have hb0 : o = 43 ∨ o = 44 → ¬ Int64.ofInt (rx_ev r b) = 0 := fun ho4 hz => by
    have h1 := (o1.2.2.2.2.2 ho4).1
    have h2 := bx_toL (a := rx_ev r b) o1.2.1
    rw [hz] at h2
    have h3 : (0 : Int64).toInt = 0 := rfl
    omega
  obtain ⟨b1, b2, b3⟩ := o2 (rx_up r z.1.length (bx_mdM o (Int64.ofInt (rx_ev r a)) (Int64.ofInt (rx_ev r b))).toInt) rx_up_same ((rx_up_same 0 (rx_pos hR.1)).trans hR.1.1) (rx_up_self.trans hv)
  rw [rx_up_self] at b1
  have hsat := rx_sat_up (lo := lo) (hi := hi) hR.1 b1.1 b1.2
  have hsc := rx_stsc hR
  rw [hst] at hsc
  have ht2 : ∀ v ∈ t, rx_sc z.1.length z.2.2.1.length v := fun v hv => hsc v (List.mem_cons_of_mem _ (List.mem_cons_of_mem _ hv))
  have hlen : z.1.length ≤ (z.1 ++ [(lo, hi)]).length := by simp
  have hN := rx_R_nxI (d := 1) (st := .inr (1, (z.1.length, 0)) :: t) hR hlen rx_up_same hsat (fun v hv => by
    rcases List.mem_cons.mp hv with h | h
    · subst h
      show z.1.length < (z.1 ++ [(lo, hi)]).length
      simp
    · exact rx_sc.mono (ht2 v h) hlen trivial)
  rw [hq'] at hN
  have k := K i_p q_p S _ H locs ls htab b2 b3 hXS hsin hN
  rw [← hq'] at k
  have ev : rx_iv (rx_up r z.1.length (bx_mdM o (Int64.ofInt (rx_ev r a)) (Int64.ofInt (rx_ev r b))).toInt) ad xa (.inr (1, (z.1.length, 0))) = Value.long (bx_mdM o (Int64.ofInt (rx_ev r a)) (Int64.ofInt (rx_ev r b))) := by
    show Value.long (Int64.ofInt (rx_ev _ (z.1.length, 0))) = _
    unfold rx_ev
    rw [rx_up_self, Int.add_zero, Int64.ofInt_toInt]
  have et := rx_st_ext (ad := ad) (ad' := ad) (xa := xa) ht2 (rx_up_same (r := r) (n := z.1.length) (z := (bx_mdM o (Int64.ofInt (rx_ev r a)) (Int64.ofInt (rx_ev r b))).toInt)) rx_sameA.rf
  have row : W p l e R s m args below meth c H locs z.2.2.2.1 z.2.2.2.2.1 Q (F0 m (rx_zpc z + 1) ls (.long (bx_mdM o (Int64.ofInt (rx_ev r a)) (Int64.ofInt (rx_ev r b))) :: t.map (rx_iv r ad xa))) → W p l e R s m args below meth c H locs z.2.2.2.1 z.2.2.2.2.1 Q (F0 m (rx_zpc z) ls (.long (Int64.ofInt (rx_ev r b)) :: .long (Int64.ofInt (rx_ev r a)) :: t.map (rx_iv r ad xa))) := fun k => by
    rcases ho with ⟨h1, h2⟩ | ⟨h1, h2⟩ | ⟨h1, h2⟩ | ⟨h1, h2⟩ | ⟨h1, h2⟩
    · subst h1
      subst h2
      exact lv_ladd hF.1 hF.2.1 hdg k
    · subst h1
      subst h2
      exact lv_lsub hF.1 hF.2.1 hdg k
    · subst h1
      subst h2
      exact lv_lmul hF.1 hF.2.1 hdg k
    · have := hb0 (Or.inl h1)
      subst h1
      subst h2
      exact lv_ldiv hF.1 hF.2.1 hdg this k
    · have := hb0 (Or.inr h1)
      subst h1
      subst h2
      exact lv_lrem hF.1 hF.2.1 hdg this k
  rw [hst]
  refine row ?_
  rw [← ev, ← et]
  obtain ⟨zI, zF, zh, zc, zs, zp, zl, zt⟩ := z
  exact k
end RKOP
end
section
/-! HOW HIGH IT STANDS: as many parts as are read -/
def rkNu (fo : Int → Int) : Nat → Nat
  | 0 => 0
  | k + 1 => rkNu fo k + (if fo (k : Int) ≤ 8 then 1 else 0)
theorem rkNu_cg {fo fo' : Int → Int} : ∀ {k : Nat}, (∀ j : Int, j < (k : Int) → fo' j = fo j) → rkNu fo' k = rkNu fo k
  | 0, _ => rfl
  | k + 1, h => by
    show rkNu fo' k + (if fo' (k : Int) ≤ 8 then 1 else 0) = rkNu fo k + (if fo (k : Int) ≤ 8 then 1 else 0)
    rw [h k (by omega), rkNu_cg fun j hj => h j (by omega)]
theorem rkNu_mo {fo : Int → Int} {k : Nat} : ∀ j : Nat, rkNu fo k ≤ rkNu fo (k + j)
  | 0 => Nat.le_refl _
  | j + 1 => Nat.le_trans (rkNu_mo j) (Nat.le_add_right _ _)
def rkNc (c : rkC) : Nat := rkNu (rkFo c) (rkM c).toNat
theorem rkNc_emit {op a : Int} {c : rkC} (h0 : 0 ≤ rkM c) : rkNc (rkEmit op a c) = rkNc c + (if op ≤ 8 then 1 else 0) := by
  show rkNu (rkUp (rkFo c) (rkM c) op) (rkM c + 1).toNat = rkNu (rkFo c) (rkM c).toNat + _
  have e : (rkM c + 1).toNat = (rkM c).toNat + 1 := by omega
  have e2 : (((rkM c).toNat : Nat) : Int) = rkM c := by omega
  rw [e]
  show rkNu (rkUp (rkFo c) (rkM c) op) (rkM c).toNat + (if rkUp (rkFo c) (rkM c) op (((rkM c).toNat : Nat) : Int) ≤ 8 then 1 else 0) = _
  rw [e2, rkUp_at, rkNu_cg (fo := rkFo c) fun j hj => rkUp_ne (by omega)]
theorem rkNc_top {c : rkC} (h : rkW c) (hn : 0 < c.1) : rkNc (rkTop c) = rkNc c := by
  have q := (h.2.1 ((c.1 : Int) - 1) (by omega) (by omega)).1
  unfold rkTop
  by_cases hj : rkPo c ((c.1 : Int) - 1) = 29 ∨ rkPo c ((c.1 : Int) - 1) = 30
  · rw [if_pos hj]
    rfl
  · rw [if_neg hj, rkNc_emit (c := rkPop c) h.1, if_neg (by omega)]
    rfl
theorem rkNc_rd {l : Int} (hl : 1 ≤ l) : ∀ (k : Nat) (c : rkC), rkW c → rkNc (rkRd l k c) = rkNc c
  | 0, c, h => rfl
  | k + 1, c, h => by
    show rkNc (if 0 < c.1 ∧ l ≤ rkBd (rkPo c ((c.1 : Int) - 1)) then rkRd l k (rkTop c) else c) = rkNc c
    by_cases g : 0 < c.1 ∧ l ≤ rkBd (rkPo c ((c.1 : Int) - 1))
    · rw [if_pos g, rkNc_rd hl k _ (rkW_top h g.1 (rkBd_le (by omega))), rkNc_top h g.1]
    · rw [if_neg g]
theorem rkNc_red {l : Int} (hl : 1 ≤ l) {c : rkC} (h : rkW c) : rkNc (rkRed l c) = rkNc c := rkNc_rd hl _ _ h
section RKNH
variable {T : Int → Int} {n : Int} {ws : List (List Int)} {f s : Int} {rest : List Int} {c : rkC}
theorem rkNc_1 (h : rkW c) : rkNc (rkSt T n ws f (s :: rest) true c) = rkNc c := by
  have k : ∀ l : Int, 1 ≤ l → rkNc (rkRed l c) = rkNc c := fun l hl => rkNc_red hl h
  have e : ∀ l op : Int, 1 ≤ l → 9 ≤ op → rkNc (rkEmit op 0 (rkRed l c)) = rkNc c := fun l op hl ho => by
    rw [rkNc_emit (rkRed_w hl h).1.1, if_neg (by omega), k l hl]
    rfl
  rw [rkSt_1]
  (repeat' split) <;> first
    | exact k 1 (by omega)
    | exact k 4 (by omega)
    | exact k 5 (by omega)
    | exact k 6 (by omega)
    | exact e 2 29 (by omega) (by omega)
    | exact e 1 30 (by omega) (by omega)
theorem rkNc_0 (h : rkW c) : rkNc (rkSt T n ws f (s :: rest) false c) ≤ rkNc c + (if rzDg T n f = true ∨ 0 ≤ rzIxn T n f ws 0 then 1 else 0) := by
  have e : ∀ op a : Int, rkNc (rkEmit op a c) ≤ rkNc c + 1 := fun op a => by
    rw [rkNc_emit h.1]
    split <;> omega
  rw [rkSt_0]
  by_cases h1 : rzDg T n f = true
  · rw [if_pos h1, if_pos (Or.inl h1)]
    exact e _ _
  rw [if_neg h1]
  by_cases h2 : 0 ≤ rzIxn T n f ws 0
  · rw [if_pos h2, if_pos (Or.inr h2)]
    exact e _ _
  rw [if_neg h2]
  (repeat' split) <;> exact Nat.le_add_right _ _
theorem rzStep_l1 {lf f' lf' : Int} {lv' : List Int} {pr' : Bool} {q : Nat} (h : rzStep T n ws f (s :: rest) true lf = (q, f', lv', pr', lf')) : lf' = lf := by
  have h := congrArg (fun z : rzA => z.2.2.2.2) h
  have h : (if rest ≠ [] ∧ s = 0 ∧ rzSg T n 93 f = true then (0, rzN T n f, rest, true, lf)
      else if rest ≠ [] ∧ (s = 3 ∨ s = 4) ∧ rzSg T n 41 f = true then (0, rzN T n f, 4 :: rest.tail, true, lf)
      else if (s = 3 ∨ s = 4) ∧ (rzIs T n rzW_and f = true ∨ rzIs T n rzW_or f = true) then (0, rzN T n f, 1 :: rest, false, lf)
      else if s ≠ 4 ∧ f < n ∧ (T f = 43 ∨ T f = 45 ∨ T f = 42 ∨ T f = 47 ∨ T f = 37) then (0, rzN T n f, s :: rest, false, lf)
      else if s = 2 ∧ f < n ∧ (T f = 60 ∨ T f = 62 ∨ T f = 61) then (0, rzN T n f, 3 :: rest, false, lf)
      else if rest = [] ∧ s ≠ 1 ∧ s ≠ 2 then (1, f, s :: rest, true, lf)
      else ((2, f, s :: rest, true, lf) : rzA)).2.2.2.2 = lf' := h
  rw [← h]
  (repeat' split) <;> rfl
theorem rzStep_l0 {lf f' lf' : Int} {lv' : List Int} {pr' : Bool} (h : rzStep T n ws f (s :: rest) false lf = (0, f', lv', pr', lf')) : lf' = lf + (if rzDg T n f = true ∨ 0 ≤ rzIxn T n f ws 0 then 1 else 0) ∧ (lf ≤ 50 → lf' ≤ 50) := by
  have h : (if rzDg T n f = true ∨ 0 ≤ rzIxn T n f ws 0 then
      (if 1000 < rzNo T n f ∨ 50 ≤ lf then (2, f, s :: rest, false, lf) else (0, rzN T n f, (if s = 1 then 2 else s) :: rest, true, lf + 1))
      else if s = 1 ∧ rzIs T n rzW_not f = true then (0, rzN T n f, s :: rest, false, lf)
      else if s = 1 ∧ rzSg T n 40 f = true then
        (if rest.length < 8 then (0, rzN T n f, 1 :: 1 :: rest, false, lf) else (2, f, s :: rest, false, lf))
      else if rzSg T n 91 f = true then
        (if rest.length < 8 then (0, rzN T n f, 0 :: (if s = 1 then 2 else s) :: rest, false, lf) else (2, f, s :: rest, false, lf))
      else ((2, f, s :: rest, false, lf) : rzA)) = (0, f', lv', pr', lf') := h
  by_cases h1 : rzDg T n f = true ∨ 0 ≤ rzIxn T n f ws 0
  · rw [if_pos h1] at h ⊢
    by_cases h2 : 1000 < rzNo T n f ∨ 50 ≤ lf
    · rw [if_pos h2] at h
      cases (congrArg (fun z : rzA => z.1) h)
    · rw [if_neg h2] at h
      have e : lf + 1 = lf' := congrArg (fun z : rzA => z.2.2.2.2) h
      omega
  · rw [if_neg h1] at h ⊢
    have e : lf = lf' := by
      have g := congrArg (fun z : rzA => z.2.2.2.2) h
      refine Eq.trans ?_ g
      show lf = (if s = 1 ∧ rzIs T n rzW_not f = true then (0, rzN T n f, s :: rest, false, lf)
        else if s = 1 ∧ rzSg T n 40 f = true then
          (if rest.length < 8 then (0, rzN T n f, 1 :: 1 :: rest, false, lf) else (2, f, s :: rest, false, lf))
        else if rzSg T n 91 f = true then
          (if rest.length < 8 then (0, rzN T n f, 0 :: (if s = 1 then 2 else s) :: rest, false, lf) else (2, f, s :: rest, false, lf))
        else ((2, f, s :: rest, false, lf) : rzA)).2.2.2.2
      (repeat' split) <;> rfl
    omega
end RKNH
theorem rkRun_n {T : Int → Int} {n l0 : Int} {ws : List (List Int)} (hw : ws.length ≤ 8) {d : rkC} : ∀ (k : Nat) (f : Int) (lv : List Int) (pr : Bool) (lf : Int) (c : rkC), rkRun T n ws k f lv pr lf c = some d → rkW c → (rkNc c : Int) + l0 ≤ lf → lf ≤ 50 → (rkNc d : Int) + l0 ≤ 50
  | 0, f, lv, pr, lf, c, h, _, _, _ => by cases h
  | k + 1, f, [], pr, lf, c, h, _, _, _ => by cases h
  | k + 1, f, s :: rest, pr, lf, c, h, hc, h1, h2 => by
    have h : (match rzStep T n ws f (s :: rest) pr lf with
      | (0, f', lv', pr', lf') => rkRun T n ws k f' lv' pr' lf' (rkSt T n ws f (s :: rest) pr c)
      | (1, _, _, _, _) => some (rkRed 1 c)
      | _ => none) = some d := h
    have w := (rkSt_w (T := T) (n := n) (f := f) (s := s) (rest := rest) (pr := pr) hw hc).1
    match hs : rzStep T n ws f (s :: rest) pr lf, h with
    | (0, f', lv', pr', lf'), h =>
      cases pr with
      | true =>
        have e := rzStep_l1 hs
        have g := rkNc_1 (T := T) (n := n) (ws := ws) (f := f) (s := s) (rest := rest) hc
        exact rkRun_n hw k f' lv' pr' lf' _ h w (by omega) (by omega)
      | false =>
        obtain ⟨e, e2⟩ := rzStep_l0 hs
        have g := rkNc_0 (T := T) (n := n) (ws := ws) (f := f) (s := s) (rest := rest) hc
        have e2 := e2 h2
        by_cases q : rzDg T n f = true ∨ 0 ≤ rzIxn T n f ws 0
        · rw [if_pos q] at e g
          exact rkRun_n hw k f' lv' pr' lf' _ h w (by omega) e2
        · rw [if_neg q] at e g
          exact rkRun_n hw k f' lv' pr' lf' _ h w (by omega) e2
    | (1, _, _, _, _), h =>
      have e : rkRed 1 c = d := Option.some.inj h
      rw [← e, rkNc_red (by omega) hc]
      omega
    | (q + 2, _, _, _, _), h => cases h
/-- an expression has at most 50 parts -/
theorem rkEx_n {T : Int → Int} {n test f lf : Int} {ws : List (List Int)} {d : rkC} (hw : ws.length ≤ 8) (h0 : 0 ≤ lf) (h50 : lf ≤ 50) (h : rkEx T n ws test f lf d) : rkNc d ≤ 50 := by
  obtain ⟨k, hk⟩ := h
  have e : rkNc rkC0 = 0 := rfl
  have := rkRun_n (l0 := lf) hw k f [test] false lf rkC0 hk rkW_0 (by omega) h50
  omega
/-- so high it stands at most -/
theorem rkWt_h {d : rkC} {τ : Int → List Bool} (h0 : τ 0 = []) (h : ∀ i : Int, 0 ≤ i → i < rkM d → rkRu τ (rkM d) i (rkFo d i) (rkFa d i)) : ∀ k : Nat, (k : Int) ≤ rkM d → (τ (k : Int)).length ≤ rkNu (rkFo d) k
  | 0, _ => by
    show (τ 0).length ≤ 0
    rw [h0]
    exact Nat.le_refl 0
  | k + 1, hk => by
    have q := rkWt_h h0 h k (by omega)
    have r := h (k : Int) (by omega) (by omega)
    show (τ ((k : Int) + 1)).length ≤ rkNu (rkFo d) k + (if rkFo d (k : Int) ≤ 8 then 1 else 0)
    rcases r with ⟨r1, r2, r3⟩ | ⟨r1, r2, t, r3, r4⟩ | ⟨r1, r2, t, r3, r4⟩ | ⟨r1, t, r3, r4⟩ | ⟨r1, t, r3, r4, -⟩
    · rw [r3, if_pos r2, List.length_cons]
      omega
    · rw [r3] at q
      rw [r4]
      simp only [List.length_cons] at q ⊢
      omega
    · rw [r3] at q
      rw [r4]
      simp only [List.length_cons] at q ⊢
      omega
    · rw [r3] at q
      rw [r4]
      simp only [List.length_cons] at q ⊢
      omega
    · rw [r3] at q
      rw [r4]
      simp only [List.length_cons] at q
      omega
end
section
/-! WHAT WELL MADE CODE TELLS: one value; a test's is 0 or 1 -/
def rkTs : List Bool → List Int → Prop
  | [], [] => True
  | b :: t, x :: st => (b = true → x = 0 ∨ x = 1) ∧ rkTs t st
  | _, _ => False
theorem rkTs_c {b : Bool} {t : List Bool} {st : List Int} (h : rkTs (b :: t) st) : ∃ (x : Int) (st1 : List Int), st = x :: st1 ∧ (b = true → x = 0 ∨ x = 1) ∧ rkTs t st1 := by
  cases st with
  | nil => exact h.elim
  | cons x st1 => exact ⟨x, st1, rfl, h.1, h.2⟩
theorem rkTs_n {st : List Int} (h : rkTs [] st) : st = [] := by
  cases st with
  | nil => rfl
  | cons x st1 => exact h.elim
theorem rkLm_s {o : Option Int} {z : Int} (h : rkLm o = some z) : o = some z := by
  cases o with
  | none => cases h
  | some x =>
    have h : (if -1000000000 ≤ x ∧ x ≤ 1000000000 then some x else none) = some z := h
    by_cases g : -1000000000 ≤ x ∧ x ≤ 1000000000
    · rw [if_pos g] at h
      exact h
    · rw [if_neg g] at h
      cases h
theorem rkBi_c {op a b z : Int} (h1 : 25 ≤ op) (h : rkBi op a b = some z) : z = 0 ∨ z = 1 := by
  unfold rkBi at h
  rw [if_neg (by omega), if_neg (by omega), if_neg (by omega), if_neg (by omega), if_neg (by omega)] at h
  have k : ∀ (p : Prop) [Decidable p], some (if p then (1 : Int) else 0) = some z → z = 0 ∨ z = 1 := fun p _ g => by
    have g := Option.some.inj g
    by_cases q : p
    · rw [if_pos q] at g
      exact Or.inr g.symm
    · rw [if_neg q] at g
      exact Or.inl g.symm
  by_cases h2 : op = 25
  · rw [if_pos h2] at h
    exact k _ h
  rw [if_neg h2] at h
  by_cases h3 : op = 26
  · rw [if_pos h3] at h
    exact k _ h
  rw [if_neg h3] at h
  exact k _ h
end
section
/-! A ROW IS COPIED, by hand, where its places are known by the invariants alone; one of several contracts -/
section RKCY
variable {G NW : List Jvm.Cond} {AO : List String} {cl : List vw_C} {nm : Nat → String} {A : Nat → Prop} {xa : Nat → Nat} {PX : State → Prop} {l : Launch} {Dg : va_G} {L : bx_L} {md : Nat → Nat → Bool} {S : Nat → Int → Int}
variable {p : Program} {e : Env} {R : Room} {s : State} {m : MethodId} {args : Array Value} {below : List Frame} {meth : Method} {c : Code} {Q : State → Prop} {H0 H : Heap} {locs : List Loc} {ls : Array Slot} {r : Nat → Int} {ad : Nat → Nat}
variable {M : rx_Mt} {z : rx_Z} {idx : Nat}
end RKCY
section RKCZ
variable {PX : State → Prop} {Dg : va_G} {A : Nat → Prop} {ad xa : Nat → Nat} {l : Launch} {X : (Nat → Int → Int) → Prop}
variable {p : Program} {e : Env} {R : Room} {s : State} {m : MethodId} {args : Array Value} {below : List Frame} {meth : Method} {c : Code} {Q : State → Prop} {H0 : Heap}
end RKCZ
end
section
/-! PROGRAMS AS OBJECTS: where a program's rows lie; one is copied; what it holds -/
/-- its three rows that only pointers tell -/
def rkPq (S : Nat → Int → Int) (t : Nat) : Prop := S t 8 = (t : Int) + 7 ∧ S t 9 = (t : Int) + 8 ∧ S t 10 = (t : Int) + 9
/-- t is as s was, nothing else is changed -/
def rkQc (S0 S : Nat → Int → Int) (t s : Nat) : Prop := S t 0 = S0 s 0 ∧ S t 4 = S0 s 4 ∧ (∀ j : Int, 0 ≤ j → j < 400 → S (t + 1) j = S0 (s + 1) j) ∧ (∀ j : Int, 0 ≤ j → j < 400 → S (t + 2) j = S0 (s + 2) j) ∧ (∀ j : Int, 0 ≤ j → j < 12 → S (t + 4) j = S0 (s + 4) j) ∧ (∀ j : Int, 0 ≤ j → j < 12 → S (t + 5) j = S0 (s + 5) j) ∧ (∀ j : Int, 0 ≤ j → j < 12 → S (t + 6) j = S0 (s + 6) j) ∧ (∀ j : Int, 0 ≤ j → j < 12 → S (t + 7) j = S0 (s + 7) j) ∧ (∀ j : Int, 0 ≤ j → j < 12 → S (t + 8) j = S0 (s + 8) j) ∧ (∀ j : Int, 0 ≤ j → j < 12 → S (t + 9) j = S0 (s + 9) j) ∧ (∀ (p : Nat) (j : Int), p ≠ t → p ≠ t + 1 → p ≠ t + 2 → p ≠ t + 4 → p ≠ t + 5 → p ≠ t + 6 → p ≠ t + 7 → p ≠ t + 8 → p ≠ t + 9 → S p j = S0 p j) ∧ ∀ j : Int, j ≠ 0 → j ≠ 4 → S t j = S0 t j
/-- the state as the program t shows it -/
def rkAt (S : Nat → Int → Int) (t : Nat) : Nat → Int → Int := fun p j => S (p + t - 427) j
theorem rkAt_427 {S : Nat → Int → Int} : rkAt S 427 = S := by
  funext p j
  show S (p + 427 - 427) j = S p j
  rw [Nat.add_sub_cancel]
theorem rkAt_p {S : Nat → Int → Int} {t p : Nat} (h : 427 ≤ p) (j : Int) : rkAt S t p j = S (t + (p - 427)) j := by
  show S (p + t - 427) j = _
  rw [show p + t - 427 = t + (p - 427) by omega]
/-- program t holds these clauses -/
def rkHl (S : Nat → Int → Int) (t : Nat) (L : List rkQ) : Prop := S t 4 = (L.length : Int) ∧ (L.length : Int) ≤ 12 ∧ S t 0 ≤ 400 ∧ rkPd (rkAt S t) 0 L
/-- how one of its rows' slots may be told anew -/
theorem rkPd_cg {S S_p : Nat → Int → Int} (z : S_p 427 0 = S 427 0) (r1 : ∀ j : Int, 0 ≤ j → j < S 427 0 → S_p 428 j = S 428 j ∧ S_p 429 j = S 429 j) (r2 : ∀ p : Nat, 431 ≤ p → p ≤ 436 → ∀ j : Int, 0 ≤ j → j < 12 → S_p p j = S p j) {L : List rkQ} (hl : (L.length : Int) ≤ 12) (h : rkPd S 0 L) : rkPd S_p 0 L :=
  rkPd_fr (c := 12) (fun i a b => r1 i a b) (by omega) (fun p a b i x y => r2 p a b i x y) (Int.le_refl 0) (by omega) h
theorem rkHl_cp {S0 S : Nat → Int → Int} {t s : Nat} {L : List rkQ} (h : rkHl S0 s L) (q : rkQc S0 S t s) : rkHl S t L := by
  obtain ⟨h1, h2, h3, h4⟩ := h
  obtain ⟨q0, q4, r1, r2, k4, k5, k6, k7, k8, k9, -, -⟩ := q
  have a0 : rkAt S t 427 0 = S t 0 := (rkAt_p (Nat.le_refl 427) 0).trans rfl
  have b0 : rkAt S0 s 427 0 = S0 s 0 := (rkAt_p (Nat.le_refl 427) 0).trans rfl
  refine ⟨q4.trans h1, h2, by omega, rkPd_cg (S := rkAt S0 s) (a0.trans (q0.trans b0.symm)) (fun j x y => ?_) (fun p a b j x y => ?_) h2 h4⟩
  · rw [b0] at y
    rw [rkAt_p (by omega), rkAt_p (by omega), rkAt_p (by omega), rkAt_p (by omega)]
    exact ⟨r1 j x (by omega), r2 j x (by omega)⟩
  · rw [rkAt_p (by omega), rkAt_p (by omega)]
    have e : p = 431 ∨ p = 432 ∨ p = 433 ∨ p = 434 ∨ p = 435 ∨ p = 436 := by omega
    rcases e with rfl | rfl | rfl | rfl | rfl | rfl
    · exact k4 j x y
    · exact k5 j x y
    · exact k6 j x y
    · exact k7 j x y
    · exact k8 j x y
    · exact k9 j x y
/-- a town's texts: where they are -/
def rkTl (S : Nat → Int → Int) (row b : Nat) : Prop := ∀ i : Nat, i < 6 → S row (i : Int) = ((b + 10 * i : Nat) : Int) ∧ rkPq S (b + 10 * i)
/-- all that is told of places -/
def rkPf (S : Nat → Int → Int) : Prop := rkPq S 427 ∧ rkTl S 20 77 ∧ rkTl S 157 214 ∧ rkTl S 293 350
end
section
/-! OTHER PROGRAMS STAY, while the draft is written -/
/-- the places of the laws' texts: of the town, of both images -/
def rkOl : List Nat := (List.range 60).map (fun k => 77 + k) ++ ((List.range 60).map (fun k => 214 + k) ++ (List.range 60).map (fun k => 350 + k))
def rkOf (S0 S : Nat → Int → Int) : Prop := ∀ p i : Nat, p ∈ rkOl → i < bx_wd (rxL.1 p) → S p (i : Int) = S0 p (i : Int)
/-- and the draft's rows lie where they lay -/
def rkPO (S0 S : Nat → Int → Int) : Prop := rkPp S ∧ rkOf S0 S
theorem rkOf_rf {S : Nat → Int → Int} : rkOf S S := fun _ _ _ _ => rfl
theorem rkOf.tr {S0 S S_p : Nat → Int → Int} (h : rkOf S0 S) (g : rkOf S S_p) : rkOf S0 S_p := fun p i a b => (g p i a b).trans (h p i a b)
theorem rkPO_rf {S : Nat → Int → Int} (h : rkPp S) : rkPO S S := ⟨h, rkOf_rf⟩
theorem rkPO.tr {S0 S S_p : Nat → Int → Int} (h : rkPO S0 S) (g : rkPO S S_p) : rkPO S0 S_p := ⟨g.1, h.2.tr g.2⟩
theorem rkPO_up {S0 S : Nat → Int → Int} {q : Nat} {i v : Int} (hq : rkOl.contains q = false) (h8 : ¬ (q = 427 ∧ 8 ≤ i ∧ i ≤ 10)) (h : rkPO S0 S) : rkPO S0 (bx_up S q i v) := by
  obtain ⟨⟨p1, p2, p3⟩, f⟩ := h
  refine ⟨⟨(bx_up_ne (by omega)).trans p1, (bx_up_ne (by omega)).trans p2, (bx_up_ne (by omega)).trans p3⟩, fun p j a b => (bx_up_ne fun g => ?_).trans (f p j a b)⟩
  have e := g.1
  subst e
  rw [List.contains_iff_mem.mpr a] at hq
  cases hq
def rkKc : List Nat := [6, 1021, 1022, 1023, 1024, 1025, 1026, 1027]
theorem rkOl_k0 : rkOl.all (fun p => Nat.blt p 522 && rkKc.contains (bx_mc (rxL.1 p) 0).1) = true := by decide +kernel
theorem rkOl_k {p i : Nat} (h : p ∈ rkOl) : p < 522 ∧ rkKc.contains (bx_mc (rxL.1 p) i).1 = true := by
  have q := List.all_eq_true.mp rkOl_k0 p h
  rw [Bool.and_eq_true, Nat.blt_eq] at q
  rw [bx_mc1 (rxL.1 p) i]
  exact q
theorem rkPO_sm {ms : List (Nat × Nat)} {S0 S S_p : Nat → Int → Int} (hs : bx_same rxL (bx_mdl ms) S S_p) (hk : ms.all (fun q => !(rkKc.contains q.1)) = true) (h : rkPO S0 S) : rkPO S0 S_p := by
  have z : ∀ c k : Nat, rkKc.contains c = true → bx_mdl ms c k = false := fun c k hc => by
    unfold bx_mdl
    rw [List.any_eq_false]
    intro q hq g
    rw [Bool.and_eq_true, beq_iff_eq] at g
    have w := List.all_eq_true.mp hk q hq
    rw [g.1, hc] at w
    cases w
  obtain ⟨⟨p1, p2, p3⟩, f⟩ := h
  exact ⟨⟨(hs 427 8 (by decide) (by decide) (z 6 8 (by decide))).trans p1, (hs 427 9 (by decide) (by decide) (z 6 9 (by decide))).trans p2, (hs 427 10 (by decide) (by decide) (z 6 10 (by decide))).trans p3⟩, fun p i a b => (hs p i (rkOl_k (i := i) a).1 b (z _ _ (rkOl_k a).2)).trans (f p i a b)⟩
theorem rkPO_oc {S : Nat → Int → Int} {ki st cu : Int} (h : rkPp S) : rkPO S (rkOc S ki st cu) :=
  rkPO_up (by decide +kernel) (by omega) (rkPO_up (by decide +kernel) (by omega) (rkPO_up (by decide +kernel) (by omega) (rkPO_up (by decide +kernel) (by omega) (rkPO_up (by decide +kernel) (by omega) (rkPO_up (by decide +kernel) (by omega) (rkPO_up (by decide +kernel) (by omega) (rkPO_rf h)))))))
/-! A LAW'S TEXT of the developers -/
theorem rkHl_ne {S S_p : Nat → Int → Int} {t : Nat} {L : List rkQ} (h : rkHl S t L) (e : ∀ (p : Nat) (j : Int), t ≤ p → S_p p j = S p j) : rkHl S_p t L := by
  obtain ⟨h1, h2, h3, h4⟩ := h
  have f : ∀ (p : Nat) (j : Int), 427 ≤ p → rkAt S_p t p j = rkAt S t p j := fun p j a => by
    rw [rkAt_p a, rkAt_p a]
    exact e _ j (by omega)
  exact ⟨(e t 4 (Nat.le_refl t)).trans h1, h2, by rw [e t 0 (Nat.le_refl t)]; exact h3, rkPd_cg (S := rkAt S t) (f 427 0 (by omega)) (fun j x y => ⟨f 428 j (by omega), f 429 j (by omega)⟩) (fun p a b j x y => f p j (by omega)) h2 h4⟩
/-- all other texts stay -/
def rkOi (S0 S : Nat → Int → Int) (t : Nat) : Prop := ∀ p i : Nat, p ∈ rkOl → (p < t ∨ t + 10 ≤ p) → i < bx_wd (rxL.1 p) → S p (i : Int) = S0 p (i : Int)
def rkLd8 (S0 S : Nat → Int → Int) : Prop := ∃ i : Nat, i < 6 ∧ S0 1 14 = (i : Int) ∧ (∃ L : List rkQ, rkText false (rzCut (S0 411)) (S0 0 4) L ∧ rkHl S (77 + 10 * i) L) ∧ rkOi S0 S (77 + 10 * i)
/-- what law leaves -/
def rkLd (S0 S : Nat → Int → Int) : Prop := (S 1 14 = S0 1 14 ∧ rkOf S0 S) ∨ (S 1 14 = S0 1 14 + 1 ∧ rkLd8 S0 S)
theorem rkOl_ge {p : Nat} (h : p ∈ rkOl) : 77 ≤ p := by
  unfold rkOl at h
  rw [List.mem_append, List.mem_append, List.mem_map, List.mem_map, List.mem_map] at h
  rcases h with ⟨k, -, e⟩ | ⟨k, -, e⟩ | ⟨k, -, e⟩ <;> omega
theorem rkLd8_ne {S0 S S_p : Nat → Int → Int} (h : rkLd8 S0 S) (e : ∀ (p : Nat) (j : Int), 77 ≤ p → S_p p j = S p j) : rkLd8 S0 S_p := by
  obtain ⟨i, i6, hi, ⟨L, h1, h2⟩, h3⟩ := h
  exact ⟨i, i6, hi, ⟨L, h1, rkHl_ne h2 fun p j a => e p j (by omega)⟩, fun p k a b c => (e p _ (rkOl_ge a)).trans (h3 p k a b c)⟩
theorem rkLd8_of {S0 S S_p : Nat → Int → Int} {L : List rkQ} (h : rkPO S0 S) (h1 : rkText false (rzCut (S0 411)) (S0 0 4) L) (h2 : rkHl S 427 L) (e14 : S 1 14 = S0 1 14) (g : ∃ (i : Nat) (S1 : Nat → Int → Int), i < 6 ∧ S 1 14 = (i : Int) ∧ rkQc S S1 (77 + 10 * i) 427 ∧ ∀ (p : Nat) (j : Int), ¬ (p = 1 ∧ j = 14) → S_p p j = S1 p j) : rkLd8 S0 S_p := by
  obtain ⟨i, S1, i6, hi, q, f⟩ := g
  refine ⟨i, i6, by omega, ⟨L, h1, rkHl_ne (rkHl_cp h2 q) fun p j a => f p j (by omega)⟩, fun p k a b c => ?_⟩
  have g := rkOl_ge a
  have qf := q.2.2.2.2.2.2.2.2.2.2.1
  exact ((f p _ (by omega)).trans (qf p _ (by omega) (by omega) (by omega) (by omega) (by omega) (by omega) (by omega) (by omega) (by omega))).trans (h.2 p k a c)
theorem rkPp_of {S : Nat → Int → Int} (h : rkPf S) : rkPp S := ⟨by have := h.1.1; omega, by have := h.1.2.1; omega, by have := h.1.2.2; omega⟩
theorem rkPq_sm {ms : List (Nat × Nat)} {S S_p : Nat → Int → Int} (hs : bx_same rxL (bx_mdl ms) S S_p) (hk : [(6, 8), (6, 9), (6, 10)].all (fun q => !(bx_mdl ms q.1 q.2)) = true) {t : Nat} (ht : t < 522) (h1 : bx_mc (rxL.1 t) 8 = (6, 8) ∧ bx_mc (rxL.1 t) 9 = (6, 9) ∧ bx_mc (rxL.1 t) 10 = (6, 10) ∧ 10 < bx_wd (rxL.1 t)) (h : rkPq S t) : rkPq S_p t := by
  have k : ∀ c, c = 8 ∨ c = 9 ∨ c = 10 → bx_mdl ms 6 c = false := fun c hc => by
    have hm : ((6, c) : Nat × Nat) ∈ [(6, 8), (6, 9), (6, 10)] := by rcases hc with rfl | rfl | rfl <;> decide
    have := List.all_eq_true.mp hk (6, c) hm
    rw [Bool.not_eq_true'] at this
    exact this
  obtain ⟨a1, a2, a3, a4⟩ := h1
  have e8 : S_p t 8 = S t 8 := hs t 8 ht (by omega) (by rw [a1]; exact k 8 (by decide))
  have e9 : S_p t 9 = S t 9 := hs t 9 ht (by omega) (by rw [a2]; exact k 9 (by decide))
  have e10 : S_p t 10 = S t 10 := hs t 10 ht (by omega) (by rw [a3]; exact k 10 (by decide))
  exact ⟨e8.trans h.1, e9.trans h.2.1, e10.trans h.2.2⟩
theorem rkTl_sm {ms : List (Nat × Nat)} {S S_p : Nat → Int → Int} (hs : bx_same rxL (bx_mdl ms) S S_p) (hk : [(6, 8), (6, 9), (6, 10)].all (fun q => !(bx_mdl ms q.1 q.2)) = true) (hr : bx_mdl ms 1016 0 = false) {row b : Nat} (hrow : row = 20 ∧ b = 77 ∨ row = 157 ∧ b = 214 ∨ row = 293 ∧ b = 350) (h : rkTl S row b) : rkTl S_p row b := fun i i6 => by
  obtain ⟨h1, h2⟩ := h i i6
  have e : i = 0 ∨ i = 1 ∨ i = 2 ∨ i = 3 ∨ i = 4 ∨ i = 5 := by omega
  refine ⟨?_, ?_⟩
  · refine Eq.trans ?_ h1
    rcases hrow with ⟨rfl, rfl⟩ | ⟨rfl, rfl⟩ | ⟨rfl, rfl⟩
    · exact hs 20 i (by decide) (by rcases e with rfl | rfl | rfl | rfl | rfl | rfl <;> decide) (by rcases e with rfl | rfl | rfl | rfl | rfl | rfl <;> exact hr)
    · exact hs 157 i (by decide) (by rcases e with rfl | rfl | rfl | rfl | rfl | rfl <;> decide) (by rcases e with rfl | rfl | rfl | rfl | rfl | rfl <;> exact hr)
    · exact hs 293 i (by decide) (by rcases e with rfl | rfl | rfl | rfl | rfl | rfl <;> decide) (by rcases e with rfl | rfl | rfl | rfl | rfl | rfl <;> exact hr)
  · refine rkPq_sm hs hk ?_ ?_ h2
    · show b + 10 * i < 522
      omega
    · rcases hrow with ⟨-, rfl⟩ | ⟨-, rfl⟩ | ⟨-, rfl⟩ <;> rcases e with rfl | rfl | rfl | rfl | rfl | rfl <;> decide +kernel
theorem rkPf_sm {ms : List (Nat × Nat)} {S S_p : Nat → Int → Int} (hs : bx_same rxL (bx_mdl ms) S S_p) (hk : [(6, 8), (6, 9), (6, 10)].all (fun q => !(bx_mdl ms q.1 q.2)) = true) (hr : bx_mdl ms 1016 0 = false) (h : rkPf S) : rkPf S_p :=
  ⟨rkPq_sm hs hk (by decide) (by decide +kernel) h.1, rkTl_sm hs hk hr (Or.inl ⟨rfl, rfl⟩) h.2.1, rkTl_sm hs hk hr (Or.inr (Or.inl ⟨rfl, rfl⟩)) h.2.2.1, rkTl_sm hs hk hr (Or.inr (Or.inr ⟨rfl, rfl⟩)) h.2.2.2⟩
end
section
theorem rzOp_ge {T : Int → Int} {n f s st : Int} (h : st ≠ -1) (e : st = rzOp T n f s) : 4 ≤ st := by
  unfold rzOp at e
  (repeat' split at e) <;> subst e <;> first | exact absurd rfl h | decide
end
