/-! CODE IS WELL MADE: what stands at each place of it (true: yes or no; false: a number) -/
/-- what waits, the topmost first -/
def rkWl (po pa : Int → Int) : Nat → List (Int × Int)
  | 0 => []
  | k + 1 => (po (k : Int), pa (k : Int)) :: rkWl po pa k
abbrev rkWc (c : rkC) : List (Int × Int) := rkWl (rkPo c) (rkPa c) c.1
theorem rkWl_cg {po pa po' pa' : Int → Int} : ∀ {k : Nat}, (∀ j : Int, j < (k : Int) → po' j = po j ∧ pa' j = pa j) → rkWl po' pa' k = rkWl po pa k
  | 0, _ => rfl
  | k + 1, h => by
    show (po' (k : Int), pa' (k : Int)) :: rkWl po' pa' k = (po (k : Int), pa (k : Int)) :: rkWl po pa k
    rw [(h k (by omega)).1, (h k (by omega)).2, rkWl_cg fun j hj => h j (by omega)]
theorem rkWc_push {op a : Int} {c : rkC} : rkWc (rkPush op a c) = (op, a) :: rkWc c := by
  show (rkUp (rkPo c) (c.1 : Int) op (c.1 : Int), rkUp (rkPa c) (c.1 : Int) a (c.1 : Int)) :: rkWl (rkUp (rkPo c) (c.1 : Int) op) (rkUp (rkPa c) (c.1 : Int) a) c.1 = _
  rw [rkUp_at, rkUp_at, rkWl_cg (po := rkPo c) (pa := rkPa c) fun j hj => ⟨rkUp_ne (by omega), rkUp_ne (by omega)⟩]
theorem rkWc_emit {op a : Int} {c : rkC} : rkWc (rkEmit op a c) = rkWc c := rfl
theorem rkWc_cons {c : rkC} {x : Int × Int} {W : List (Int × Int)} (h : rkWc c = x :: W) : 0 < c.1 ∧ rkPo c ((c.1 : Int) - 1) = x.1 ∧ rkPa c ((c.1 : Int) - 1) = x.2 ∧ rkWc (rkPop c) = W ∧ rkWc (rkTop c) = W := by
  obtain ⟨k, po, pa, r⟩ := c
  cases k with
  | zero => cases h
  | succ k =>
    have h : (po (k : Int), pa (k : Int)) :: rkWl po pa k = x :: W := h
    have h1 : (po (k : Int), pa (k : Int)) = x := (List.cons.inj h).1
    have h2 : rkWl po pa k = W := (List.cons.inj h).2
    have e : ((k + 1 : Nat) : Int) - 1 = (k : Int) := by omega
    refine ⟨Nat.succ_pos k, ?_, ?_, h2, ?_⟩
    · show po (((k + 1 : Nat) : Int) - 1) = x.1
      rw [e, ← h1]
    · show pa (((k + 1 : Nat) : Int) - 1) = x.2
      rw [e, ← h1]
    · unfold rkTop
      split
      · exact h2
      · exact h2
theorem rkWc_nil {c : rkC} (h : rkWc c = []) : c.1 = 0 := by
  obtain ⟨k, po, pa, r⟩ := c
  cases k with
  | zero => rfl
  | succ k => cases h
/-- the left sides that stand below -/
def rkLf : List (Int × Int) → List Bool
  | [] => []
  | x :: W => if 20 ≤ x.1 ∧ x.1 ≤ 27 then false :: rkLf W else rkLf W
theorem rkLf_y {x : Int × Int} {W : List (Int × Int)} (h : 20 ≤ x.1 ∧ x.1 ≤ 27) : rkLf (x :: W) = false :: rkLf W := if_pos h
theorem rkLf_n {x : Int × Int} {W : List (Int × Int)} (h : 28 ≤ x.1) : rkLf (x :: W) = rkLf W := if_neg (by omega)
/-- leaps that wait for their end -/
def rkLo (τ : Int → List Bool) (fo fa : Int → Int) : Int → List (Int × Int) → Prop
  | _, [] => True
  | m, x :: W => if x.1 = 29 ∨ x.1 = 30 then 0 ≤ x.2 ∧ x.2 < m ∧ fo x.2 = x.1 ∧ fa x.2 = 0 ∧ τ x.2 = true :: rkLf W ∧ rkLo τ fo fa x.2 W else rkLo τ fo fa m W
theorem rkLo_cg {τ τ' : Int → List Bool} {fo fo' fa fa' : Int → Int} : ∀ {W : List (Int × Int)} {m m' : Int}, (∀ j : Int, 0 ≤ j → j < m → τ' j = τ j ∧ fo' j = fo j ∧ fa' j = fa j) → m ≤ m' → rkLo τ fo fa m W → rkLo τ' fo' fa' m' W
  | [], _, _, _, _, _ => trivial
  | x :: W, m, m', e, hm, h => by
    unfold rkLo at h ⊢
    by_cases hx : x.1 = 29 ∨ x.1 = 30
    · rw [if_pos hx] at h ⊢
      obtain ⟨h1, h2, h3, h4, h5, h6⟩ := h
      obtain ⟨e1, e2, e3⟩ := e x.2 h1 h2
      exact ⟨h1, by omega, e2.trans h3, e3.trans h4, e1.trans h5, rkLo_cg (fun j a b => e j a (by omega)) (Int.le_refl _) h6⟩
    · rw [if_neg hx] at h ⊢
      exact rkLo_cg e hm h
theorem rkLo_n {τ : Int → List Bool} {fo fa : Int → Int} {x : Int × Int} {W : List (Int × Int)} {m : Int} (hx : ¬ (x.1 = 29 ∨ x.1 = 30)) : rkLo τ fo fa m (x :: W) ↔ rkLo τ fo fa m W := by
  unfold rkLo
  rw [if_neg hx]
  cases W <;> exact Iff.rfl
/-- what a step makes of it -/
def rkRu (τ : Int → List Bool) (m i op a : Int) : Prop :=
  (0 ≤ op ∧ op ≤ 8 ∧ τ (i + 1) = false :: τ i) ∨ (20 ≤ op ∧ op ≤ 24 ∧ ∃ t : List Bool, τ i = false :: false :: t ∧ τ (i + 1) = false :: t) ∨ (25 ≤ op ∧ op ≤ 27 ∧ ∃ t : List Bool, τ i = false :: false :: t ∧ τ (i + 1) = true :: t) ∨ (op = 28 ∧ ∃ t : List Bool, τ i = true :: t ∧ τ (i + 1) = true :: t) ∨ ((op = 29 ∨ op = 30) ∧ ∃ t : List Bool, τ i = true :: t ∧ τ (i + 1) = t ∧ (a = 0 ∨ (i < a ∧ a ≤ m ∧ τ a = true :: t)))
theorem rkRl_cg {τ τ' : Int → List Bool} {m m' i op a : Int} (e : ∀ j : Int, 0 ≤ j → j ≤ m → τ' j = τ j) (hm : m ≤ m') (i0 : 0 ≤ i) (i1 : i < m) (h : rkRu τ m i op a) : rkRu τ' m' i op a := by
  have e0 := e i i0 (by omega)
  have e1 := e (i + 1) (by omega) (by omega)
  unfold rkRu at h ⊢
  rw [e0, e1]
  rcases h with h | h | h | h | ⟨h1, t, h2, h3, h4⟩
  · exact Or.inl h
  · exact Or.inr (Or.inl h)
  · exact Or.inr (Or.inr (Or.inl h))
  · exact Or.inr (Or.inr (Or.inr (Or.inl h)))
  · refine Or.inr (Or.inr (Or.inr (Or.inr ⟨h1, t, h2, h3, ?_⟩)))
    rcases h4 with h4 | ⟨h4, h5, h6⟩
    · exact Or.inl h4
    · exact Or.inr ⟨h4, by omega, (e a (by omega) h5).trans h6⟩
def rkCd (fo fa : Int → Int) (m : Int) (W : List (Int × Int)) : Prop := ∀ i : Int, 0 ≤ i → i < m → fo i = 29 ∨ fo i = 30 → fa i = 0 → ∃ x ∈ W, (x.1 = 29 ∨ x.1 = 30) ∧ x.2 = i
def rkTz (m : Int) (fo fa : Int → Int) (W : List (Int × Int)) (L : List Bool) : Prop := 0 ≤ m ∧ ∃ τ : Int → List Bool, τ 0 = [] ∧ (∀ i : Int, 0 ≤ i → i < m → rkRu τ m i (fo i) (fa i)) ∧ τ m = L ∧ rkLo τ fo fa m W ∧ rkCd fo fa m W
theorem rkTz_em {m op a : Int} {fo fa : Int → Int} {W : List (Int × Int)} {L : List Bool} (L' : List Bool) (h : rkTz m fo fa W L) : ∃ τ : Int → List Bool, τ 0 = [] ∧ (∀ i : Int, 0 ≤ i → i < m → rkRu τ (m + 1) i (rkUp fo m op i) (rkUp fa m a i)) ∧ τ m = L ∧ τ (m + 1) = L' ∧ rkLo τ (rkUp fo m op) (rkUp fa m a) m W ∧ rkCd (rkUp fo m op) (rkUp fa m a) m W := by
  obtain ⟨m0, τ, h1, h2, h3, h4, h5⟩ := h
  have e : ∀ j : Int, j ≠ m + 1 → (fun j : Int => if j = m + 1 then L' else τ j) j = τ j := fun j hj => if_neg hj
  refine ⟨fun j => if j = m + 1 then L' else τ j, (e 0 (by omega)).trans h1, fun i i0 i1 => ?_, (e m (by omega)).trans h3, if_pos rfl, rkLo_cg (fun j a b => ⟨e j (by omega), rkUp_ne (by omega), rkUp_ne (by omega)⟩) (Int.le_refl m) h4, fun i i0 i1 hf ha => ?_⟩
  · rw [rkUp_ne (by omega), rkUp_ne (by omega)]
    exact rkRl_cg (fun j a b => e j (by omega)) (by omega) i0 i1 (h2 i i0 i1)
  · rw [rkUp_ne (by omega)] at hf ha
    exact h5 i i0 i1 hf ha
theorem rkTz_ne {m op a : Int} {fo fa : Int → Int} {W W' : List (Int × Int)} {L : List Bool} (L' : List Bool) (h : rkTz m fo fa W L) (hn : ¬ (op = 29 ∨ op = 30)) (hr : ∀ τ : Int → List Bool, τ m = L → τ (m + 1) = L' → rkRu τ (m + 1) m op a) (hl : ∀ (τ : Int → List Bool) (fo fa : Int → Int), rkLo τ fo fa m W → rkLo τ fo fa m W') (hc : ∀ x ∈ W, x.1 = 29 ∨ x.1 = 30 → x ∈ W') : rkTz (m + 1) (rkUp fo m op) (rkUp fa m a) W' L' := by
  have m0 := h.1
  obtain ⟨τ, h1, h2, h3, h4, h5, h6⟩ := rkTz_em (op := op) (a := a) L' h
  refine ⟨by omega, τ, h1, fun i i0 i1 => ?_, h4, rkLo_cg (fun j _ _ => ⟨rfl, rfl, rfl⟩) (by omega) (hl _ _ _ h5), fun i i0 i1 hf ha => ?_⟩
  · by_cases hi : i = m
    · subst hi
      rw [rkUp_at, rkUp_at]
      exact hr τ h3 h4
    · exact h2 i i0 (by omega)
  · by_cases hi : i = m
    · subst hi
      rw [rkUp_at] at hf
      exact absurd hf hn
    · obtain ⟨x, x1, x2, x3⟩ := h6 i i0 (by omega) hf ha
      exact ⟨x, hc x x1 x2, x2, x3⟩
def rkTy (c : rkC) (pr b : Bool) : Prop := rkTz (rkM c) (rkFo c) (rkFa c) (rkWc c) (if pr = true then b :: rkLf (rkWc c) else rkLf (rkWc c))
section RKTY
variable {c : rkC} {x : Int × Int} {W : List (Int × Int)} {op a : Int} {b b_p : Bool}
theorem rkTy_num (h : rkTy c false b) (h0 : 0 ≤ op) (h8 : op ≤ 8) : rkTy (rkEmit op a c) true false := by
  refine rkTz_ne (op := op) (a := a) (W' := rkWc c) (false :: rkLf (rkWc c)) h (by omega) (fun τ e1 e2 => Or.inl ⟨h0, h8, ?_⟩) (fun _ _ _ q => q) (fun x q _ => q)
  rw [e2, e1]
  rfl
theorem rkTop_ne (hw : rkWc c = x :: W) (hn : ¬ (x.1 = 29 ∨ x.1 = 30)) : rkTop c = rkEmit x.1 0 (rkPop c) := by
  obtain ⟨-, h1, -, -, -⟩ := rkWc_cons hw
  unfold rkTop
  rw [h1, if_neg hn]
theorem rkTy_bin (h : rkTy c true false) (hw : rkWc c = x :: W) (h1 : 20 ≤ x.1) (h2 : x.1 ≤ 27) : rkTy (rkTop c) true (decide (25 ≤ x.1)) := by
  have hn : ¬ (x.1 = 29 ∨ x.1 = 30) := by omega
  obtain ⟨-, -, -, hp, -⟩ := rkWc_cons hw
  rw [rkTop_ne hw hn]
  unfold rkTy at h ⊢
  rw [rkWc_emit, hp]
  rw [hw] at h
  refine rkTz_ne (op := x.1) (a := 0) (decide (25 ≤ x.1) :: rkLf W) h hn (fun τ e1 e2 => ?_) (fun τ fo fa q => (rkLo_n hn).mp q) (fun y q r => ?_)
  · have e1 : τ (rkM c) = false :: rkLf (x :: W) := e1
    rw [rkLf_y ⟨h1, h2⟩] at e1
    by_cases h3 : 25 ≤ x.1
    · rw [decide_eq_true h3] at e2
      exact Or.inr (Or.inr (Or.inl ⟨h3, h2, rkLf W, e1, e2⟩))
    · rw [decide_eq_false h3] at e2
      exact Or.inr (Or.inl ⟨h1, by omega, rkLf W, e1, e2⟩)
  · rcases List.mem_cons.mp q with e | e
    · rw [e] at r
      exact absurd r hn
    · exact e
theorem rkTy_not (h : rkTy c true true) (hw : rkWc c = x :: W) (h1 : x.1 = 28) : rkTy (rkTop c) true true := by
  have hn : ¬ (x.1 = 29 ∨ x.1 = 30) := by omega
  obtain ⟨-, -, -, hp, -⟩ := rkWc_cons hw
  rw [rkTop_ne hw hn]
  unfold rkTy at h ⊢
  rw [rkWc_emit, hp]
  rw [hw] at h
  refine rkTz_ne (op := x.1) (a := 0) (true :: rkLf W) h hn (fun τ e1 e2 => ?_) (fun τ fo fa q => (rkLo_n hn).mp q) (fun y q r => ?_)
  · have e1 : τ (rkM c) = true :: rkLf (x :: W) := e1
    rw [rkLf_n (by omega)] at e1
    exact Or.inr (Or.inr (Or.inr (Or.inl ⟨h1, rkLf W, e1, e2⟩)))
  · rcases List.mem_cons.mp q with e | e
    · rw [e] at r
      exact absurd r hn
    · exact e
theorem rkTy_leap (h : rkTy c true true) (hw : rkWc c = x :: W) (h1 : x.1 = 29 ∨ x.1 = 30) : rkTy (rkTop c) true true := by
  obtain ⟨-, p1, p2, -, hp⟩ := rkWc_cons hw
  have ht : rkTop c = (c.1 - 1, c.2.1, c.2.2.1, c.2.2.2.1, c.2.2.2.2.1, rkUp c.2.2.2.2.2 x.2 c.2.2.2.1) := by
    unfold rkTop
    rw [p1, if_pos h1, p2]
  have e0 : rkM (rkTop c) = rkM c := by rw [ht]
  have e1 : rkFo (rkTop c) = rkFo c := by rw [ht]
  have e2 : rkFa (rkTop c) = rkUp (rkFa c) x.2 (rkM c) := by rw [ht]
  unfold rkTy at h ⊢
  rw [hp, e0, e1, e2]
  rw [hw] at h
  obtain ⟨m0, τ, g1, g2, g3, g4, g5⟩ := h
  have g3 : τ (rkM c) = true :: rkLf (x :: W) := g3
  rw [rkLf_n (by omega)] at g3
  unfold rkLo at g4
  rw [if_pos h1] at g4
  obtain ⟨l1, l2, l3, l4, l5, l6⟩ := g4
  refine ⟨m0, τ, g1, fun i i0 i1 => ?_, g3, rkLo_cg (fun j a b => ⟨rfl, rfl, rkUp_ne (by omega)⟩) (by omega) l6, fun i i0 i1 hf ha => ?_⟩
  · by_cases hi : i = x.2
    · subst hi
      rw [rkUp_at]
      have r := g2 x.2 i0 i1
      unfold rkRu at r ⊢
      rcases r with r | r | r | r | ⟨r1, t, r2, r3, r4⟩
      · omega
      · omega
      · omega
      · omega
      · have et : t = rkLf W := (List.cons.inj (r2.symm.trans l5)).2
        exact Or.inr (Or.inr (Or.inr (Or.inr ⟨r1, t, r2, r3, Or.inr ⟨l2, Int.le_refl _, by rw [et]; exact g3⟩⟩)))
    · rw [rkUp_ne hi]
      exact g2 i i0 i1
  · by_cases hi : i = x.2
    · subst hi
      rw [rkUp_at] at ha
      omega
    · rw [rkUp_ne hi] at ha
      obtain ⟨y, y1, y2, y3⟩ := g5 i i0 i1 hf ha
      rcases List.mem_cons.mp y1 with e | e
      · rw [e] at y3
        exact absurd y3.symm hi
      · exact ⟨y, e, y2, y3⟩
theorem rkTz_W {m : Int} {fo fa : Int → Int} {W W' : List (Int × Int)} {L : List Bool} (h : rkTz m fo fa W L) (hl : ∀ (τ : Int → List Bool), rkLo τ fo fa m W → rkLo τ fo fa m W') (hc : ∀ x ∈ W, x.1 = 29 ∨ x.1 = 30 → x ∈ W') : rkTz m fo fa W' L := by
  obtain ⟨m0, τ, g1, g2, g3, g4, g5⟩ := h
  exact ⟨m0, τ, g1, g2, g3, hl τ g4, fun i i0 i1 hf ha => by
    obtain ⟨y, y1, y2, y3⟩ := g5 i i0 i1 hf ha
    exact ⟨y, hc y y1 y2, y2, y3⟩⟩
theorem rkTy_pu0 (h : rkTy c false b) (ho : op = 28 ∨ 31 ≤ op) : rkTy (rkPush op 0 c) false b_p := by
  have hn : ¬ (((op, 0) : Int × Int).1 = 29 ∨ ((op, 0) : Int × Int).1 = 30) := by
    show ¬ (op = 29 ∨ op = 30)
    omega
  unfold rkTy at h ⊢
  rw [rkWc_push, if_neg (by decide), rkLf_n (by show 28 ≤ op; omega)]
  rw [if_neg (by decide)] at h
  exact rkTz_W h (fun τ q => (rkLo_n hn).mpr q) (fun x q _ => List.mem_cons_of_mem _ q)
theorem rkTy_pu2 (h : rkTy c true false) (h1 : 20 ≤ op) (h2 : op ≤ 27) : rkTy (rkPush op 0 c) false b_p := by
  have hn : ¬ (((op, 0) : Int × Int).1 = 29 ∨ ((op, 0) : Int × Int).1 = 30) := by
    show ¬ (op = 29 ∨ op = 30)
    omega
  unfold rkTy at h ⊢
  rw [rkWc_push, if_neg (by decide), rkLf_y (by show 20 ≤ op ∧ op ≤ 27; omega)]
  rw [if_pos rfl] at h
  exact rkTz_W h (fun τ q => (rkLo_n hn).mpr q) (fun x q _ => List.mem_cons_of_mem _ q)
theorem rkTy_pop (h : rkTy c true b) (hw : rkWc c = x :: W) (hx : 31 ≤ x.1) : rkTy (rkPop c) true b := by
  have hn : ¬ (x.1 = 29 ∨ x.1 = 30) := by omega
  obtain ⟨-, -, -, hp, -⟩ := rkWc_cons hw
  unfold rkTy at h ⊢
  rw [hp]
  rw [hw, rkLf_n (by omega)] at h
  exact rkTz_W h (fun τ q => (rkLo_n hn).mp q) (fun y q r => by
    rcases List.mem_cons.mp q with e | e
    · rw [e] at r
      exact absurd r hn
    · exact e)
theorem rkTy_and (h : rkTy c true true) (ho : op = 29 ∨ op = 30) : rkTy (rkPush op (rkM c) (rkEmit op 0 c)) false b_p := by
  unfold rkTy at h ⊢
  rw [rkWc_push, if_neg (by decide), rkLf_n (by show 28 ≤ op; omega), rkWc_emit]
  rw [if_pos rfl] at h
  have m0 := h.1
  obtain ⟨τ, g1, g2, g3, g4, g5, g6⟩ := rkTz_em (op := op) (a := 0) (rkLf (rkWc c)) h
  show rkTz (rkM c + 1) (rkUp (rkFo c) (rkM c) op) (rkUp (rkFa c) (rkM c) 0) ((op, rkM c) :: rkWc c) (rkLf (rkWc c))
  refine ⟨by omega, τ, g1, fun i i0 i1 => ?_, g4, ?_, fun i i0 i1 hf ha => ?_⟩
  · by_cases hi : i = rkM c
    · rw [hi, rkUp_at, rkUp_at]
      exact Or.inr (Or.inr (Or.inr (Or.inr ⟨ho, rkLf (rkWc c), g3, g4, Or.inl rfl⟩)))
    · exact g2 i i0 (by omega)
  · unfold rkLo
    rw [if_pos (show ((op, rkM c) : Int × Int).1 = 29 ∨ ((op, rkM c) : Int × Int).1 = 30 from ho)]
    exact ⟨m0, by show rkM c < rkM c + 1; omega, rkUp_at, rkUp_at, g3, g5⟩
  · by_cases hi : i = rkM c
    · exact ⟨(op, rkM c), List.mem_cons_self, ho, hi.symm⟩
    · obtain ⟨y, y1, y2, y3⟩ := g6 i i0 (by omega) hf ha
      exact ⟨y, List.mem_cons_of_mem _ y1, y2, y3⟩
end RKTY
/-! what may wait, level by level -/
def rkSu (A : List (Int × Int)) : Prop := ∀ x ∈ A, 20 ≤ x.1 ∧ x.1 ≤ 24
def rkAn (A : List (Int × Int)) : Prop := ∀ x ∈ A, 28 ≤ x.1 ∧ x.1 ≤ 30
/-- nothing more is to be done over it -/
def rkLs (l : Int) (B : List (Int × Int)) : Prop := ∀ x ∈ B.head?, rkBd x.1 < l
theorem rkRed_1 {l : Int} {c : rkC} {x : Int × Int} {W : List (Int × Int)} (hw : rkWc c = x :: W) (h : l ≤ rkBd x.1) : rkRed l c = rkRed l (rkTop c) := by
  obtain ⟨h0, h1, -, -, -⟩ := rkWc_cons hw
  exact rkRed_y h0 (by rw [h1]; exact h)
theorem rkRed_0 {l : Int} {c : rkC} (h : rkLs l (rkWc c)) : rkRed l c = c := by
  refine rkRed_n fun q => ?_
  cases hw : rkWc c with
  | nil =>
    have := rkWc_nil hw
    omega
  | cons x W =>
    obtain ⟨-, h1, -, -, -⟩ := rkWc_cons hw
    rw [hw] at h
    have := h x rfl
    rw [h1] at q
    omega
theorem rkBd_su {v : Int} (h : 20 ≤ v ∧ v ≤ 24) : 5 ≤ rkBd v ∧ rkBd v ≤ 6 := by
  have e : v = 20 ∨ v = 21 ∨ v = 22 ∨ v = 23 ∨ v = 24 := by omega
  rcases e with rfl | rfl | rfl | rfl | rfl <;> decide
theorem rkBd_an {v : Int} (h : 28 ≤ v ∧ v ≤ 30) : 1 ≤ rkBd v ∧ rkBd v ≤ 3 := by
  have e : v = 28 ∨ v = 29 ∨ v = 30 := by omega
  rcases e with rfl | rfl | rfl <;> decide
theorem rkBd_cm {v : Int} (h : 25 ≤ v ∧ v ≤ 27) : rkBd v = 4 := by
  have e : v = 25 ∨ v = 26 ∨ v = 27 := by omega
  rcases e with rfl | rfl | rfl <;> decide
/-- sums are done -/
theorem rkRed_su {l : Int} {B : List (Int × Int)} (hB : rkLs l B) : ∀ {A : List (Int × Int)} {c : rkC}, rkWc c = A ++ B → rkSu A → rkTy c true false → ∃ A' : List (Int × Int), rkWc (rkRed l c) = A' ++ B ∧ rkSu A' ∧ rkTy (rkRed l c) true false ∧ (l ≤ 5 → A' = [])
  | [], c, hw, _, ht => ⟨[], by rw [rkRed_0 (by rw [hw]; exact hB)]; exact hw, fun x q => absurd q List.not_mem_nil, by rw [rkRed_0 (by rw [hw]; exact hB)]; exact ht, fun _ => rfl⟩
  | x :: A, c, hw, hs, ht => by
    have hw : rkWc c = x :: (A ++ B) := hw
    have hx := hs x List.mem_cons_self
    by_cases hl : l ≤ rkBd x.1
    · rw [rkRed_1 hw hl]
      have t := rkTy_bin ht hw hx.1 (by omega)
      rw [decide_eq_false (by omega)] at t
      exact rkRed_su hB (rkWc_cons hw).2.2.2.2 (fun y q => hs y (List.mem_cons_of_mem _ q)) t
    · have n : rkLs l (rkWc c) := by
        rw [hw]
        intro y q
        have e : x = y := Option.some.inj q
        rw [← e]
        omega
      rw [rkRed_0 n]
      refine ⟨x :: A, hw, hs, ht, fun h5 => ?_⟩
      have := (rkBd_su hx).1
      omega
/-- and, or, not are done -/
theorem rkRed_an {l : Int} {B : List (Int × Int)} (hB : rkLs l B) : ∀ {A : List (Int × Int)} {c : rkC}, rkWc c = A ++ B → rkAn A → rkTy c true true → ∃ A' : List (Int × Int), rkWc (rkRed l c) = A' ++ B ∧ rkAn A' ∧ rkTy (rkRed l c) true true ∧ (l ≤ 1 → A' = [])
  | [], c, hw, _, ht => ⟨[], by rw [rkRed_0 (by rw [hw]; exact hB)]; exact hw, fun x q => absurd q List.not_mem_nil, by rw [rkRed_0 (by rw [hw]; exact hB)]; exact ht, fun _ => rfl⟩
  | x :: A, c, hw, hs, ht => by
    have hw : rkWc c = x :: (A ++ B) := hw
    have hx := hs x List.mem_cons_self
    by_cases hl : l ≤ rkBd x.1
    · rw [rkRed_1 hw hl]
      have t : rkTy (rkTop c) true true := by
        by_cases h28 : x.1 = 28
        · exact rkTy_not ht hw h28
        · exact rkTy_leap ht hw (by omega)
      exact rkRed_an hB (rkWc_cons hw).2.2.2.2 (fun y q => hs y (List.mem_cons_of_mem _ q)) t
    · have n : rkLs l (rkWc c) := by
        rw [hw]
        intro y q
        have e : x = y := Option.some.inj q
        rw [← e]
        omega
      rw [rkRed_0 n]
      refine ⟨x :: A, hw, hs, ht, fun h5 => ?_⟩
      have := (rkBd_an hx).1
      omega
/-- a comparison and what lies below it -/
theorem rkRed_cmp {l : Int} {C B : List (Int × Int)} {y : Int × Int} (hB : rkLs l B) (hl : l ≤ 4) (hy : 25 ≤ y.1 ∧ y.1 ≤ 27) (hC : rkAn C) : ∀ {A : List (Int × Int)} {c : rkC}, rkWc c = A ++ y :: (C ++ B) → rkSu A → rkTy c true false → ∃ A' : List (Int × Int), rkWc (rkRed l c) = A' ++ B ∧ rkAn A' ∧ rkTy (rkRed l c) true true ∧ (l ≤ 1 → A' = [])
  | [], c, hw, _, ht => by
    have hw : rkWc c = y :: (C ++ B) := hw
    have t := rkTy_bin ht hw (by omega) hy.2
    rw [decide_eq_true hy.1] at t
    rw [rkRed_1 hw (by rw [rkBd_cm hy]; exact hl)]
    exact rkRed_an hB (rkWc_cons hw).2.2.2.2 hC t
  | x :: A, c, hw, hs, ht => by
    have hw : rkWc c = x :: (A ++ y :: (C ++ B)) := hw
    have hx := hs x List.mem_cons_self
    have t := rkTy_bin ht hw hx.1 (by omega)
    rw [decide_eq_false (by omega)] at t
    rw [rkRed_1 hw (by have := (rkBd_su hx).1; omega)]
    exact rkRed_cmp hB hl hy hC (rkWc_cons hw).2.2.2.2 (fun y q => hs y (List.mem_cons_of_mem _ q)) t
def rkSh (s : Int) (A : List (Int × Int)) : Prop := (s = 0 ∧ rkSu A) ∨ (s = 2 ∧ ∃ B C : List (Int × Int), A = B ++ C ∧ rkSu B ∧ rkAn C) ∨ (s = 3 ∧ ∃ (B C : List (Int × Int)) (y : Int × Int), A = B ++ y :: C ∧ rkSu B ∧ (25 ≤ y.1 ∧ y.1 ≤ 27) ∧ rkAn C) ∨ ((s = 1 ∨ s = 4) ∧ rkAn A)
def rkLv (test : Int) : List Int → List (Int × Int) → Prop
  | [], _ => False
  | [s], W => rkSh s W ∧ (test = 0 ↔ s = 0)
  | s :: s' :: r, W => ∃ (A B : List (Int × Int)) (x : Int × Int), W = A ++ x :: B ∧ rkSh s A ∧ ((x.1 = 31 ∧ s ≠ 0 ∧ s' = 1) ∨ (x.1 = 32 ∧ s = 0 ∧ (s' = 0 ∨ s' = 2 ∨ s' = 3))) ∧ rkLv test (s' :: r) B
/-- what lies below a level -/
def rkBt (test s : Int) (rest : List Int) (B : List (Int × Int)) : Prop := (rest = [] ∧ B = [] ∧ (test = 0 ↔ s = 0)) ∨ ∃ (s' : Int) (r : List Int) (x : Int × Int) (B' : List (Int × Int)), rest = s' :: r ∧ B = x :: B' ∧ ((x.1 = 31 ∧ s ≠ 0 ∧ s' = 1) ∨ (x.1 = 32 ∧ s = 0 ∧ (s' = 0 ∨ s' = 2 ∨ s' = 3))) ∧ rkLv test (s' :: r) B'
theorem rkLv_y {test s : Int} {rest : List Int} {W : List (Int × Int)} (h : rkLv test (s :: rest) W) : ∃ A B : List (Int × Int), W = A ++ B ∧ rkSh s A ∧ rkBt test s rest B := by
  cases rest with
  | nil => exact ⟨W, [], (List.append_nil W).symm, h.1, Or.inl ⟨rfl, rfl, h.2⟩⟩
  | cons s' r =>
    obtain ⟨A, B, x, e, h1, h2, h3⟩ := h
    exact ⟨A, x :: B, e, h1, Or.inr ⟨s', r, x, B, rfl, rfl, h2, h3⟩⟩
theorem rkLv_of {test s : Int} {rest : List Int} {A B : List (Int × Int)} (h : rkSh s A) (hb : rkBt test s rest B) : rkLv test (s :: rest) (A ++ B) := by
  rcases hb with ⟨e1, e2, e3⟩ | ⟨s', r, x, B', e1, e2, e3, e4⟩
  · subst e1
    subst e2
    rw [List.append_nil]
    exact ⟨h, e3⟩
  · subst e1
    subst e2
    exact ⟨A, B', x, rfl, h, e3, e4⟩
theorem rkBt_s {test s s2 : Int} {rest : List Int} {B : List (Int × Int)} (h : rkBt test s rest B) (e : s = 0 ↔ s2 = 0) : rkBt test s2 rest B := by
  rcases h with ⟨e1, e2, e3⟩ | ⟨s', r, x, B', e1, e2, e3, e4⟩
  · exact Or.inl ⟨e1, e2, e3.trans e⟩
  · refine Or.inr ⟨s', r, x, B', e1, e2, ?_, e4⟩
    rcases e3 with ⟨a, b, c⟩ | ⟨a, b, c⟩
    · exact Or.inl ⟨a, fun g => b (e.mpr g), c⟩
    · exact Or.inr ⟨a, e.mp b, c⟩
theorem rkBt_ls {test s l : Int} {rest : List Int} {B : List (Int × Int)} (h : rkBt test s rest B) (hl : 1 ≤ l) : rkLs l B := by
  rcases h with ⟨e1, e2, e3⟩ | ⟨s', r, x, B', e1, e2, e3, e4⟩
  · subst e2
    intro y q
    cases q
  · subst e2
    intro y q
    have e : x = y := Option.some.inj q
    rw [← e]
    unfold rkBd
    rw [if_pos (by omega)]
    omega
theorem rkLs_ap {l : Int} {C B : List (Int × Int)} (hC : ∀ x ∈ C, rkBd x.1 < l) (hB : rkLs l B) : rkLs l (C ++ B) := by
  cases C with
  | nil => exact hB
  | cons x C =>
    intro y q
    have e : x = y := Option.some.inj q
    rw [← e]
    exact hC x List.mem_cons_self
/-- the sums on top of a level -/
theorem rkSh_su {s : Int} {A B : List (Int × Int)} (h : rkSh s A) (hs : s = 0 ∨ s = 2 ∨ s = 3) (hB : rkLs 5 B) : ∃ A1 D : List (Int × Int), A = A1 ++ D ∧ rkSu A1 ∧ rkLs 5 (D ++ B) ∧ ∀ A2 : List (Int × Int), rkSu A2 → rkSh s (A2 ++ D) := by
  rcases h with ⟨e, h⟩ | ⟨e, P, C, e2, h1, h2⟩ | ⟨e, P, C, y, e2, h1, h2, h3⟩ | ⟨e, h⟩
  · exact ⟨A, [], (List.append_nil A).symm, h, hB, fun A2 g => Or.inl ⟨e, by rw [List.append_nil]; exact g⟩⟩
  · exact ⟨P, C, e2, h1, rkLs_ap (fun x q => by have := (rkBd_an (h2 x q)).2; omega) hB, fun A2 g => Or.inr (Or.inl ⟨e, A2, C, rfl, g, h2⟩)⟩
  · refine ⟨P, y :: C, e2, h1, ?_, fun A2 g => Or.inr (Or.inr (Or.inl ⟨e, A2, C, y, rfl, g, h2, h3⟩))⟩
    intro z q
    have e : y = z := Option.some.inj q
    rw [← e, rkBd_cm h2]
    omega
  · omega
theorem rkLs_mo {l l' : Int} {B : List (Int × Int)} (h : rkLs l B) (hl : l ≤ l') : rkLs l' B := fun x q => by
  have := h x q
  omega
/-- all of a level is done -/
theorem rkSh_all {l s test : Int} {rest : List Int} {A B : List (Int × Int)} {c : rkC} (hl : 1 ≤ l) (h2 : l ≤ 2) (hw : rkWc c = A ++ B) (h : rkSh s A) (hs : s = 3 ∨ s = 4) (hB : rkBt test s rest B) (ht : rkTy c true (decide (s = 4))) : ∃ A' : List (Int × Int), rkWc (rkRed l c) = A' ++ B ∧ rkAn A' ∧ rkTy (rkRed l c) true true ∧ (l ≤ 1 → A' = []) := by
  have hb := rkBt_ls hB hl
  rcases h with ⟨e, h⟩ | ⟨e, P, C, e2, h1, h2⟩ | ⟨e, P, C, y, e2, h1, h3, h4⟩ | ⟨e, h⟩
  · omega
  · omega
  · rw [decide_eq_false (by omega)] at ht
    rw [e2, List.append_assoc] at hw
    exact rkRed_cmp hb (by omega) h3 h4 hw h1 ht
  · rw [decide_eq_true (by omega)] at ht
    exact rkRed_an hb hw h ht
section RKLV
variable {T : Int → Int} {n : Int} {ws : List (List Int)} {f f' lf lf' s test : Int} {rest lv' : List Int} {pr' : Bool} {c : rkC}
/-- what a level's state is in all -/
def rkIv (test : Int) (c : rkC) (lv : List Int) (pr : Bool) : Prop := ∃ (s : Int) (rest : List Int), lv = s :: rest ∧ rkTy c pr (decide (s = 4)) ∧ rkLv test lv (rkWc c) ∧ (pr = true → s ≠ 1) ∧ (pr = false → s ≠ 4)
theorem rkSh_2 {A : List (Int × Int)} (h : rkSh s A) (h4 : s ≠ 4) : rkSh (if s = 1 then 2 else s) A := by
  by_cases h1 : s = 1
  · rw [if_pos h1]
    rcases h with ⟨e, -⟩ | ⟨e, -⟩ | ⟨e, -⟩ | ⟨-, h⟩
    · omega
    · omega
    · omega
    · exact Or.inr (Or.inl ⟨rfl, [], A, rfl, fun x q => absurd q List.not_mem_nil, h⟩)
  · rw [if_neg h1]
    exact h
theorem rkSh_r {A : List (Int × Int)} (h : rkSh s A) : s = 0 ∨ s = 1 ∨ s = 2 ∨ s = 3 ∨ s = 4 := by
  rcases h with ⟨e, -⟩ | ⟨e, -⟩ | ⟨e, -⟩ | ⟨e, -⟩ <;> omega
theorem rkIv_0 (hw : ws.length ≤ 8) (ht : rkTy c false (decide (s = 4))) (hL : rkLv test (s :: rest) (rkWc c)) (h4 : s ≠ 4) (h : rzStep T n ws f (s :: rest) false lf = (0, f', lv', pr', lf')) : rkIv test (rkSt T n ws f (s :: rest) false c) lv' pr' := by
  obtain ⟨A, B, eW, hA, hB⟩ := rkLv_y hL
  have hr := rkSh_r hA
  have h : (if rzDg T n f = true ∨ 0 ≤ rzIxn T n f ws 0 then
      (if 1000 < rzNo T n f ∨ 50 ≤ lf then (2, f, s :: rest, false, lf) else (0, rzN T n f, (if s = 1 then 2 else s) :: rest, true, lf + 1))
      else if s = 1 ∧ rzIs T n rzW_not f = true then (0, rzN T n f, s :: rest, false, lf)
      else if s = 1 ∧ rzSg T n 40 f = true then
        (if rest.length < 8 then (0, rzN T n f, 1 :: 1 :: rest, false, lf) else (2, f, s :: rest, false, lf))
      else if rzSg T n 91 f = true then
        (if rest.length < 8 then (0, rzN T n f, 0 :: (if s = 1 then 2 else s) :: rest, false, lf) else (2, f, s :: rest, false, lf))
      else ((2, f, s :: rest, false, lf) : rzA)) = (0, f', lv', pr', lf') := h
  rw [rkSt_0]
  by_cases h1 : rzDg T n f = true ∨ 0 ≤ rzIxn T n f ws 0
  · rw [if_pos h1] at h
    by_cases h2 : 1000 < rzNo T n f ∨ 50 ≤ lf
    · rw [if_pos h2] at h
      cases (congrArg (fun z : rzA => z.1) h)
    rw [if_neg h2] at h
    have e1 : (if s = 1 then 2 else s) :: rest = lv' := congrArg (fun z : rzA => z.2.2.1) h
    have e2 : true = pr' := congrArg (fun z : rzA => z.2.2.2.1) h
    subst e1
    subst e2
    have s4 : (if s = 1 then 2 else s) ≠ 4 := by split <;> omega
    have s1 : (if s = 1 then 2 else s) ≠ 1 := by split <;> omega
    have sz : s = 0 ↔ (if s = 1 then 2 else s) = 0 := by split <;> omega
    have key : ∀ op a : Int, 0 ≤ op → op ≤ 8 → rkIv test (rkEmit op a c) ((if s = 1 then 2 else s) :: rest) true := fun op a o0 o8 => by
      refine ⟨_, rest, rfl, ?_, ?_, fun _ => s1, fun g => by cases g⟩
      · rw [decide_eq_false s4]
        exact rkTy_num ht o0 o8
      · rw [rkWc_emit, eW]
        exact rkLv_of (rkSh_2 hA h4) (rkBt_s hB sz)
    by_cases h3 : rzDg T n f = true
    · rw [if_pos h3]
      exact key 0 _ (by omega) (by omega)
    · have i0 := h1.resolve_left h3
      have i1 := rzIxn_le (T := T) (n := n) (f := f) (l := ws) (k := 0) (Int.le_refl 0)
      rw [if_neg h3, if_pos i0]
      exact key _ _ (by omega) (by omega)
  rw [if_neg h1] at h
  rw [if_neg fun g => h1 (Or.inl g), if_neg fun g => h1 (Or.inr g)]
  by_cases h2 : s = 1 ∧ rzIs T n rzW_not f = true
  · rw [if_pos h2] at h ⊢
    have e1 : s :: rest = lv' := congrArg (fun z : rzA => z.2.2.1) h
    have e2 : false = pr' := congrArg (fun z : rzA => z.2.2.2.1) h
    subst e1
    subst e2
    refine ⟨s, rest, rfl, rkTy_pu0 ht (Or.inl rfl), ?_, fun g => (by cases g), fun _ => h4⟩
    rw [rkWc_push, eW]
    refine rkLv_of (A := (28, 0) :: A) ?_ hB
    rcases hA with ⟨e, -⟩ | ⟨e, -⟩ | ⟨e, -⟩ | ⟨e, h⟩
    · omega
    · omega
    · omega
    · exact Or.inr (Or.inr (Or.inr ⟨e, fun x q => by
        rcases List.mem_cons.mp q with g | g
        · rw [g]
          exact ⟨by decide, by decide⟩
        · exact h x g⟩))
  rw [if_neg h2] at h ⊢
  by_cases h3 : s = 1 ∧ rzSg T n 40 f = true
  · rw [if_pos h3] at h ⊢
    by_cases h5 : rest.length < 8
    · rw [if_pos h5] at h
      have e1 : 1 :: 1 :: rest = lv' := congrArg (fun z : rzA => z.2.2.1) h
      have e2 : false = pr' := congrArg (fun z : rzA => z.2.2.2.1) h
      subst e1
      subst e2
      refine ⟨1, 1 :: rest, rfl, rkTy_pu0 ht (Or.inr (by omega)), ?_, fun g => (by cases g), fun _ => by omega⟩
      rw [rkWc_push]
      have hs := h3.1
      subst hs
      exact ⟨[], rkWc c, (31, 0), rfl, Or.inr (Or.inr (Or.inr ⟨Or.inl rfl, fun x q => absurd q List.not_mem_nil⟩)), Or.inl ⟨rfl, by omega, rfl⟩, hL⟩
    · rw [if_neg h5] at h
      cases (congrArg (fun z : rzA => z.1) h)
  rw [if_neg h3] at h ⊢
  by_cases h6 : rzSg T n 91 f = true
  · rw [if_pos h6] at h
    by_cases h5 : rest.length < 8
    · rw [if_pos h5] at h
      have e1 : 0 :: (if s = 1 then 2 else s) :: rest = lv' := congrArg (fun z : rzA => z.2.2.1) h
      have e2 : false = pr' := congrArg (fun z : rzA => z.2.2.2.1) h
      subst e1
      subst e2
      refine ⟨0, (if s = 1 then 2 else s) :: rest, rfl, rkTy_pu0 ht (Or.inr (by omega)), ?_, fun g => (by cases g), fun _ => by omega⟩
      rw [rkWc_push]
      refine ⟨[], rkWc c, (32, 0), rfl, Or.inl ⟨rfl, fun x q => absurd q List.not_mem_nil⟩, Or.inr ⟨rfl, rfl, by split <;> omega⟩, ?_⟩
      rw [eW]
      exact rkLv_of (rkSh_2 hA h4) (rkBt_s hB (by split <;> omega))
    · rw [if_neg h5] at h
      cases (congrArg (fun z : rzA => z.1) h)
  · rw [if_neg h6] at h
    cases (congrArg (fun z : rzA => z.1) h)
theorem rkIv_1 (ht : rkTy c true (decide (s = 4))) (hL : rkLv test (s :: rest) (rkWc c)) (h1 : s ≠ 1) : (∀ (f' lf' : Int) (lv' : List Int) (pr' : Bool), rzStep T n ws f (s :: rest) true lf = (0, f', lv', pr', lf') → rkIv test (rkSt T n ws f (s :: rest) true c) lv' pr') ∧ (∀ (f' lf' : Int) (lv' : List Int) (pr' : Bool), rzStep T n ws f (s :: rest) true lf = (1, f', lv', pr', lf') → rkTy (rkRed 1 c) true (decide (test ≠ 0)) ∧ rkWc (rkRed 1 c) = []) := by
  obtain ⟨A, B, eW, hA, hB⟩ := rkLv_y hL
  have hr := rkSh_r hA
  have hu : rzStep T n ws f (s :: rest) true lf = (if rest ≠ [] ∧ s = 0 ∧ rzSg T n 93 f = true then (0, rzN T n f, rest, true, lf)
      else if rest ≠ [] ∧ (s = 3 ∨ s = 4) ∧ rzSg T n 41 f = true then (0, rzN T n f, 4 :: rest.tail, true, lf)
      else if (s = 3 ∨ s = 4) ∧ (rzIs T n rzW_and f = true ∨ rzIs T n rzW_or f = true) then (0, rzN T n f, 1 :: rest, false, lf)
      else if s ≠ 4 ∧ f < n ∧ (T f = 43 ∨ T f = 45 ∨ T f = 42 ∨ T f = 47 ∨ T f = 37) then (0, rzN T n f, s :: rest, false, lf)
      else if s = 2 ∧ f < n ∧ (T f = 60 ∨ T f = 62 ∨ T f = 61) then (0, rzN T n f, 3 :: rest, false, lf)
      else if rest = [] ∧ s ≠ 1 ∧ s ≠ 2 then (1, f, s :: rest, true, lf)
      else ((2, f, s :: rest, true, lf) : rzA)) := rfl
  rw [hu, rkSt_1]
  by_cases c1 : rest ≠ [] ∧ s = 0 ∧ rzSg T n 93 f = true
  · rw [if_pos c1, if_pos c1]
    refine ⟨fun f' lf' lv' pr' h => ?_, fun f' lf' lv' pr' h => by cases (congrArg (fun z : rzA => z.1) h)⟩
    have e1 : rest = lv' := congrArg (fun z : rzA => z.2.2.1) h
    have e2 : true = pr' := congrArg (fun z : rzA => z.2.2.2.1) h
    subst e1
    subst e2
    rcases hB with ⟨b1, -, -⟩ | ⟨s', r, x, B', b1, b2, b3, b4⟩
    · exact absurd b1 c1.1
    · have hx : x.1 = 32 ∧ (s' = 0 ∨ s' = 2 ∨ s' = 3) := by
        rcases b3 with ⟨g, g2, g3⟩ | ⟨g, g2, g3⟩
        · exact absurd c1.2.1 g2
        · exact ⟨g, g3⟩
      rcases hA with ⟨e, hA⟩ | ⟨e, -⟩ | ⟨e, -⟩ | ⟨e, -⟩
      · rw [decide_eq_false (by omega)] at ht
        have hb : rkLs 1 B := by
          subst b2
          intro y q
          have e : x = y := Option.some.inj q
          rw [← e]
          unfold rkBd
          rw [if_pos (by omega)]
          omega
        obtain ⟨A', w1, w2, w3, w4⟩ := rkRed_su (l := 1) hb eW hA ht
        rw [w4 (by omega), List.nil_append, b2] at w1
        refine ⟨s', r, b1, ?_, ?_, fun _ => by omega, fun g => by cases g⟩
        · rw [decide_eq_false (by omega)]
          exact rkTy_pop w3 w1 (by omega)
        · rw [(rkWc_cons w1).2.2.2.1, b1]
          exact b4
      · omega
      · omega
      · omega
  rw [if_neg c1, if_neg c1]
  by_cases c2 : rest ≠ [] ∧ (s = 3 ∨ s = 4) ∧ rzSg T n 41 f = true
  · rw [if_pos c2, if_pos c2]
    refine ⟨fun f' lf' lv' pr' h => ?_, fun f' lf' lv' pr' h => by cases (congrArg (fun z : rzA => z.1) h)⟩
    have e1 : 4 :: rest.tail = lv' := congrArg (fun z : rzA => z.2.2.1) h
    have e2 : true = pr' := congrArg (fun z : rzA => z.2.2.2.1) h
    subst e1
    subst e2
    obtain ⟨A', w1, w2, w3, w4⟩ := rkSh_all (l := 1) (by omega) (by omega) eW hA c2.2.1 hB ht
    rcases hB with ⟨b1, -, -⟩ | ⟨s', r, x, B', b1, b2, b3, b4⟩
    · exact absurd b1 c2.1
    · have hx : x.1 = 31 ∧ s' = 1 := by
        rcases b3 with ⟨g, g2, g3⟩ | ⟨g, g2, g3⟩
        · exact ⟨g, g3⟩
        · omega
      rw [w4 (by omega), List.nil_append, b2] at w1
      have hs_p := hx.2
      subst hs_p
      subst b1
      refine ⟨4, r, rfl, ?_, ?_, fun _ => by omega, fun g => by cases g⟩
      · rw [decide_eq_true rfl]
        exact rkTy_pop w3 w1 (by omega)
      · rw [(rkWc_cons w1).2.2.2.1]
        obtain ⟨A2, B2, k1, k2, k3⟩ := rkLv_y b4
        rw [k1]
        refine rkLv_of (s := 4) ?_ (rkBt_s k3 (by omega))
        rcases k2 with ⟨e, -⟩ | ⟨e, -⟩ | ⟨e, -⟩ | ⟨-, k2⟩
        · omega
        · omega
        · omega
        · exact Or.inr (Or.inr (Or.inr ⟨Or.inr rfl, k2⟩))
  rw [if_neg c2, if_neg c2]
  by_cases c3 : (s = 3 ∨ s = 4) ∧ (rzIs T n rzW_and f = true ∨ rzIs T n rzW_or f = true)
  · rw [if_pos c3]
    refine ⟨fun f' lf' lv' pr' h => ?_, fun f' lf' lv' pr' h => by cases (congrArg (fun z : rzA => z.1) h)⟩
    have e1 : 1 :: rest = lv' := congrArg (fun z : rzA => z.2.2.1) h
    have e2 : false = pr' := congrArg (fun z : rzA => z.2.2.2.1) h
    subst e1
    subst e2
    have key : ∀ l op : Int, 1 ≤ l → l ≤ 2 → op = 29 ∨ op = 30 → rkIv test (rkPush op (rkM (rkRed l c)) (rkEmit op 0 (rkRed l c))) (1 :: rest) false := fun l op l1 l2 ho => by
      obtain ⟨A', w1, w2, w3, w4⟩ := rkSh_all l1 l2 eW hA c3.1 hB ht
      refine ⟨1, rest, rfl, rkTy_and w3 ho, ?_, fun g => (by cases g), fun _ => by omega⟩
      rw [rkWc_push, rkWc_emit, w1]
      refine rkLv_of (A := (op, rkM (rkRed l c)) :: A') (Or.inr (Or.inr (Or.inr ⟨Or.inl rfl, fun x q => ?_⟩))) (rkBt_s hB (by omega))
      rcases List.mem_cons.mp q with g | g
      · rw [g]
        show 28 ≤ op ∧ op ≤ 30
        omega
      · exact w2 x g
    by_cases ha : (s = 3 ∨ s = 4) ∧ rzIs T n rzW_and f = true
    · rw [if_pos ha]
      exact key 2 29 (by omega) (by omega) (Or.inl rfl)
    · rw [if_neg ha, if_pos ⟨c3.1, c3.2.resolve_left fun g => ha ⟨c3.1, g⟩⟩]
      exact key 1 30 (by omega) (by omega) (Or.inr rfl)
  rw [if_neg c3, if_neg (show ¬ ((s = 3 ∨ s = 4) ∧ rzIs T n rzW_and f = true) from fun g => c3 ⟨g.1, Or.inl g.2⟩), if_neg (show ¬ ((s = 3 ∨ s = 4) ∧ rzIs T n rzW_or f = true) from fun g => c3 ⟨g.1, Or.inr g.2⟩)]
  by_cases c4 : s ≠ 4 ∧ f < n ∧ (T f = 43 ∨ T f = 45 ∨ T f = 42 ∨ T f = 47 ∨ T f = 37)
  · rw [if_pos c4]
    refine ⟨fun f' lf' lv' pr' h => ?_, fun f' lf' lv' pr' h => by cases (congrArg (fun z : rzA => z.1) h)⟩
    have e1 : s :: rest = lv' := congrArg (fun z : rzA => z.2.2.1) h
    have e2 : false = pr' := congrArg (fun z : rzA => z.2.2.2.1) h
    subst e1
    subst e2
    rw [decide_eq_false c4.1] at ht
    obtain ⟨A1, D, a1, a2, a3, a4⟩ := rkSh_su hA (by omega) (rkBt_ls hB (l := 5) (by omega))
    have key : ∀ l op : Int, 5 ≤ l → 20 ≤ op → op ≤ 24 → rkIv test (rkPush op 0 (rkRed l c)) (s :: rest) false := fun l op l5 o0 o4 => by
      rw [a1, List.append_assoc] at eW
      obtain ⟨A', w1, w2, w3, w4⟩ := rkRed_su (l := l) (rkLs_mo a3 l5) eW a2 ht
      refine ⟨s, rest, rfl, rkTy_pu2 w3 o0 (by omega), ?_, fun g => (by cases g), fun _ => c4.1⟩
      rw [rkWc_push, w1, ← List.append_assoc]
      refine rkLv_of (A := (op, 0) :: (A' ++ D)) (a4 ((op, 0) :: A') fun x q => ?_) hB
      rcases List.mem_cons.mp q with g | g
      · rw [g]
        exact ⟨o0, o4⟩
      · exact w2 x g
    by_cases k1 : T f = 43
    · rw [if_pos k1]
      exact key 5 20 (by omega) (by omega) (by omega)
    rw [if_neg k1]
    by_cases k2 : T f = 45
    · rw [if_pos k2]
      exact key 5 21 (by omega) (by omega) (by omega)
    rw [if_neg k2]
    by_cases k3 : T f = 42
    · rw [if_pos k3]
      exact key 6 22 (by omega) (by omega) (by omega)
    rw [if_neg k3]
    by_cases k4 : T f = 47
    · rw [if_pos k4]
      exact key 6 23 (by omega) (by omega) (by omega)
    rw [if_neg k4, if_pos (by omega)]
    exact key 6 24 (by omega) (by omega) (by omega)
  rw [if_neg c4]
  by_cases c5 : s = 2 ∧ f < n ∧ (T f = 60 ∨ T f = 62 ∨ T f = 61)
  · rw [if_pos c5]
    refine ⟨fun f' lf' lv' pr' h => ?_, fun f' lf' lv' pr' h => by cases (congrArg (fun z : rzA => z.1) h)⟩
    have e1 : 3 :: rest = lv' := congrArg (fun z : rzA => z.2.2.1) h
    have e2 : false = pr' := congrArg (fun z : rzA => z.2.2.2.1) h
    subst e1
    subst e2
    rw [decide_eq_false (by omega)] at ht
    rw [if_neg (by omega), if_neg (by omega), if_neg (by omega), if_neg (by omega), if_neg (by omega)]
    rcases hA with ⟨e, -⟩ | ⟨-, P, C, a1, a2, a3⟩ | ⟨e, -⟩ | ⟨e, -⟩
    · omega
    · have key : ∀ op : Int, 25 ≤ op → op ≤ 27 → rkIv test (rkPush op 0 (rkRed 4 c)) (3 :: rest) false := fun op o0 o4 => by
        rw [a1, List.append_assoc] at eW
        obtain ⟨A', w1, w2, w3, w4⟩ := rkRed_su (l := 4) (rkLs_ap (fun x q => by have := (rkBd_an (a3 x q)).2; omega) (rkBt_ls hB (by omega))) eW a2 ht
        rw [w4 (by omega), List.nil_append] at w1
        refine ⟨3, rest, rfl, rkTy_pu2 w3 (by omega) o4, ?_, fun g => (by cases g), fun _ => by omega⟩
        rw [rkWc_push, w1]
        exact rkLv_of (A := (op, 0) :: C) (Or.inr (Or.inr (Or.inl ⟨rfl, [], C, (op, 0), rfl, fun x q => absurd q List.not_mem_nil, ⟨o0, o4⟩, a3⟩))) (rkBt_s hB (by omega))
      by_cases k1 : T f = 60
      · rw [if_pos k1]
        exact key 25 (by omega) (by omega)
      rw [if_neg k1]
      by_cases k2 : T f = 62
      · rw [if_pos k2]
        exact key 26 (by omega) (by omega)
      rw [if_neg k2]
      exact key 27 (by omega) (by omega)
    · omega
    · omega
  rw [if_neg c5]
  by_cases c6 : rest = [] ∧ s ≠ 1 ∧ s ≠ 2
  · rw [if_pos c6]
    refine ⟨fun f' lf' lv' pr' h => (by cases (congrArg (fun z : rzA => z.1) h)), fun f' lf' lv' pr' h => ?_⟩
    rcases id hB with ⟨-, b2, b3⟩ | ⟨s', r, x, B', b1, b2, -⟩
    · by_cases hs : s = 0
      · rw [decide_eq_false (by omega)] at ht
        rw [decide_eq_false (by omega)]
        rcases hA with ⟨-, hA⟩ | ⟨e, -⟩ | ⟨e, -⟩ | ⟨e, -⟩
        · obtain ⟨A', w1, w2, w3, w4⟩ := rkRed_su (l := 1) (rkBt_ls hB (by omega)) eW hA ht
          rw [w4 (by omega), b2] at w1
          exact ⟨w3, w1⟩
        · omega
        · omega
        · omega
      · rw [decide_eq_true (show test ≠ 0 by omega)]
        obtain ⟨A', w1, w2, w3, w4⟩ := rkSh_all (l := 1) (by omega) (by omega) eW hA (by omega) hB ht
        rw [w4 (by omega), b2] at w1
        exact ⟨w3, w1⟩
    · rw [c6.1] at b1
      cases b1
  · rw [if_neg c6]
    exact ⟨fun f' lf' lv' pr' h => (by cases (congrArg (fun z : rzA => z.1) h)), fun f' lf' lv' pr' h => by cases (congrArg (fun z : rzA => z.1) h)⟩
end RKLV
/-- the code of an expression that is whole -/
def rkWt (d : rkC) (b : Bool) : Prop := 0 ≤ rkM d ∧ ∃ τ : Int → List Bool, τ 0 = [] ∧ (∀ i : Int, 0 ≤ i → i < rkM d → rkRu τ (rkM d) i (rkFo d i) (rkFa d i) ∧ ((rkFo d i = 29 ∨ rkFo d i = 30) → rkFa d i ≠ 0)) ∧ τ (rkM d) = [b]
theorem rkWt_of {d : rkC} {b : Bool} (h : rkTy d true b) (hw : rkWc d = []) : rkWt d b := by
  unfold rkTy at h
  rw [hw, if_pos rfl] at h
  obtain ⟨m0, τ, h1, h2, h3, -, h5⟩ := h
  refine ⟨m0, τ, h1, fun i i0 i1 => ⟨h2 i i0 i1, fun ho ha => ?_⟩, h3⟩
  obtain ⟨x, x1, -⟩ := h5 i i0 i1 ho ha
  cases x1
theorem rkRun_t {T : Int → Int} {n test : Int} {ws : List (List Int)} (hw : ws.length ≤ 8) {d : rkC} : ∀ (k : Nat) (f : Int) (lv : List Int) (pr : Bool) (lf : Int) (c : rkC), rkRun T n ws k f lv pr lf c = some d → rkIv test c lv pr → rkWt d (decide (test ≠ 0))
  | 0, f, lv, pr, lf, c, h, _ => by cases h
  | k + 1, f, lv, pr, lf, c, h, hi => by
    have h : (match rzStep T n ws f lv pr lf with
      | (0, f', lv', pr', lf') => rkRun T n ws k f' lv' pr' lf' (rkSt T n ws f lv pr c)
      | (1, _, _, _, _) => some (rkRed 1 c)
      | _ => none) = some d := h
    obtain ⟨s, rest, e, ht, hL, p1, p0⟩ := hi
    subst e
    match hs : rzStep T n ws f (s :: rest) pr lf, h with
    | (0, f', lv', pr', lf'), h =>
      refine rkRun_t hw k f' lv' pr' lf' _ h ?_
      cases pr with
      | true => exact (rkIv_1 ht hL (p1 rfl)).1 _ _ _ _ hs
      | false => exact rkIv_0 hw ht hL (p0 rfl) hs
    | (1, _, _, _, _), h =>
      cases pr with
      | true =>
        have e : rkRed 1 c = d := Option.some.inj h
        rw [← e]
        have q := (rkIv_1 ht hL (p1 rfl)).2 _ _ _ _ hs
        exact rkWt_of q.1 q.2
      | false => exact absurd hs rzStep_n1
    | (q + 2, _, _, _, _), h => cases h
theorem rkEx_t {T : Int → Int} {n test f lf : Int} {ws : List (List Int)} {d : rkC} (hw : ws.length ≤ 8) (ht : test = 0 ∨ test = 1) (h : rkEx T n ws test f lf d) : rkWt d (decide (test ≠ 0)) := by
  obtain ⟨k, hk⟩ := h
  refine rkRun_t hw k f [test] false lf rkC0 hk ⟨test, [], rfl, ?_, ⟨?_, Iff.rfl⟩, fun g => (by cases g), fun _ => by omega⟩
  · refine ⟨Int.le_refl 0, fun _ => [], rfl, fun i i0 i1 => ?_, rfl, trivial, fun i i0 i1 => ?_⟩
    · have i1 : i < 0 := i1
      omega
    · have i1 : i < 0 := i1
      omega
  · rcases ht with rfl | rfl
    · exact Or.inl ⟨rfl, fun x q => absurd q List.not_mem_nil⟩
    · exact Or.inr (Or.inr (Or.inr ⟨Or.inl rfl, fun x q => absurd q List.not_mem_nil⟩))
