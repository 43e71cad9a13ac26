/-! WHAT IS KEPT ALIKE of both: which images are kept -/
def lzK (S : Nat → Int → Int) : Prop := S 410 0 = S 484 0 ∧ S 410 1 = S 484 1
def lz_av (ms : List (Nat × Nat)) : Bool := !(bx_mdl ms 1031 0) && !(bx_mdl ms 1065 0)
theorem lzK_keep {ms : List (Nat × Nat)} (h : lz_av ms = true) {S S' : Nat → Int → Int} (hk : lzK S) (hs : bx_same rxL (bx_mdl ms) S S') : lzK S' := by
  unfold lz_av at h
  rw [Bool.and_eq_true, Bool.not_eq_true', Bool.not_eq_true'] at h
  obtain ⟨h1, h2⟩ := h
  exact ⟨(hs 410 0 (by decide) (by decide) h1).trans (hk.1.trans (hs 484 0 (by decide) (by decide) h2).symm), (hs 410 1 (by decide) (by decide) h1).trans (hk.2.trans (hs 484 1 (by decide) (by decide) h2).symm)⟩
theorem lzK0 : lzK rzS := ⟨by decide +kernel, by decide +kernel⟩
theorem lz_r2 {P : Int → Prop} (h0 : P 0) (h1 : P 1) : ∀ j : Int, 0 ≤ j → j ≤ 1 → P j := fun j a b => by
  rcases (show j = 0 ∨ j = 1 by omega) with rfl | rfl
  · exact h0
  · exact h1
theorem lz_1eq {q k k' : Int} (h : [q, k] = [q, k']) : k = k' := Option.some.inj (congrArg (fun l => l[1]?) h)
section LZS
variable {l : Launch} {s : State} {xs : Nat → Int32} {Dg : va_G} {PX : State → Prop} {ad : Nat → Nat} {a : Nat}
/-- behind the developers' image -/
def lzK44 (k : Int) (S : Nat → Int → Int) : Prop := ∀ j : Int, 0 ≤ j → j ≤ 1 → S 410 j = if j = k then 1 else S 484 j
theorem lz_m44a (h : bx_ConP rxG rxNW rxAO PX Dg rxL rxX vwCl (lz_A s) ad l rxM208 rxC208 (fun _ _ => True) rxPS208) : lz_M l s Dg PX ad rxM208 rxC208.2.2.2.1 0 (lz_xs xs 1 a) lzK (fun v => v.category = 1) (fun _ => lzK44 (xs a).toInt) := by
  refine lz_conPM (q := 0) (tc := 0) h ⟨_, rfl⟩ ⟨_, rfl⟩ rfl (fun _ _ _ => trivial) fun S0 S y hk hI0 hI hs hp => ⟨rfl, ?_⟩
  obtain ⟨k, e1, -, e3⟩ := hp
  have e : (xs a).toInt = k := lz_1eq e1
  have h484 : ∀ j : Int, 0 ≤ j → j ≤ 1 → S 484 j = S0 484 j := lz_r2 (hs 484 0 (by decide) (by decide) (by decide +kernel)) (hs 484 1 (by decide) (by decide) (by decide +kernel))
  have hkk : ∀ j : Int, 0 ≤ j → j ≤ 1 → S0 410 j = S0 484 j := lz_r2 hk.1 hk.2
  intro j j0 j1
  rw [e3 j j0 j1, h484 j j0 j1, hkk j j0 j1, e]
theorem lz_m44b (h : bx_ConP rxG rxNW rxAO PX Dg rxL rxX vwCl (lz_A s) ad l rxM209 rxC209 (fun _ _ => True) rxPS209) : lz_M l s Dg PX ad rxM209 rxC209.2.2.2.1 480 (lz_xs xs 1 a) (lzK44 (xs a).toInt) (fun v => v.category = 1) (fun _ => lzK) := by
  refine lz_conPM (q := 480) (tc := 0) h ⟨_, rfl⟩ ⟨_, rfl⟩ rfl (fun _ _ _ => trivial) fun S0 S y hk hI0 hI hs hp => ⟨rfl, ?_⟩
  obtain ⟨k, e1, -, e3⟩ := hp
  have e : (xs a).toInt = k := lz_1eq e1
  have h410 : ∀ j : Int, 0 ≤ j → j ≤ 1 → S 410 j = S0 410 j := lz_r2 (hs 410 0 (by decide) (by decide) (by decide +kernel)) (hs 410 1 (by decide) (by decide) (by decide +kernel))
  have key : ∀ j : Int, 0 ≤ j → j ≤ 1 → S 410 j = S 484 j := fun j j0 j1 => by rw [h410 j j0 j1, e3 j j0 j1, hk j j0 j1, e]
  exact ⟨key 0 (by decide) (by decide), key 1 (by decide) (by decide)⟩
def lz_b45 (R : Int → Int) (k : Int) : Int := if 0 ≤ k ∧ k ≤ 1 then (if R k = 0 then -2 else 0) else -1
def lzK45 (k : Int) (v : Value) (S : Nat → Int → Int) : Prop := lzK S ∧ v = .int (Int32.ofInt (lz_b45 (S 484) k))
theorem lz_m45a (h : bx_ConP rxG rxNW rxAO PX Dg rxL rxX vwCl (lz_A s) ad l rxM210 rxC210 (fun _ _ => True) rxPS210) : lz_M l s Dg PX ad rxM210 rxC210.2.2.2.1 0 (lz_xs xs 1 a) lzK (fun v => ∃ x : Int32, v = .int x) (lzK45 (xs a).toInt) := by
  refine lz_conPM (q := 0) (tc := 0) h ⟨_, rfl⟩ ⟨_, rfl⟩ rfl (fun _ _ _ => trivial) fun S0 S y hk hI0 hI hs hp => ⟨⟨_, rfl⟩, lzK_keep (by decide +kernel) hk hs, ?_⟩
  obtain ⟨k, e1, e2⟩ := hp
  have e : (xs a).toInt = k := lz_1eq e1
  have h484 : ∀ j : Int, 0 ≤ j → j ≤ 1 → S 484 j = S0 484 j := lz_r2 (hs 484 0 (by decide) (by decide) (by decide +kernel)) (hs 484 1 (by decide) (by decide) (by decide +kernel))
  have hkk : ∀ j : Int, 0 ≤ j → j ≤ 1 → S0 410 j = S0 484 j := lz_r2 hk.1 hk.2
  show Value.int (Int32.ofInt y) = Value.int (Int32.ofInt (lz_b45 (S 484) (xs a).toInt))
  rw [Option.some.inj e2, e]
  unfold lz_b45
  by_cases hr : 0 ≤ k ∧ k ≤ 1
  · rw [if_pos hr, if_pos hr, h484 k hr.1 hr.2, hkk k hr.1 hr.2]
  · rw [if_neg hr, if_neg hr]
theorem lz_m45b {v : Value} (h : bx_ConP rxG rxNW rxAO PX Dg rxL rxX vwCl (lz_A s) ad l rxM211 rxC211 (fun _ _ => True) rxPS211) : lz_M l s Dg PX ad rxM211 rxC211.2.2.2.1 480 (lz_xs xs 1 a) (lzK45 (xs a).toInt v) (fun v' => v' = v) (fun _ => lzK) := by
  refine lz_conPM (q := 480) (tc := 0) h ⟨_, rfl⟩ ⟨_, rfl⟩ rfl (fun _ _ _ => trivial) fun S0 S y hk hI0 hI hs hp => ⟨?_, lzK_keep (by decide +kernel) hk.1 hs⟩
  obtain ⟨k, e1, e2⟩ := hp
  have e : (xs a).toInt = k := lz_1eq e1
  rw [hk.2]
  show Value.int (Int32.ofInt y) = Value.int (Int32.ofInt (lz_b45 (S0 484) (xs a).toInt))
  rw [e]
  unfold lz_b45
  rcases e2 with ⟨g1, g2, g3, g4, -⟩ | ⟨g1, g2, -⟩
  · rw [if_pos ⟨g1, g2⟩, if_neg (by omega), Option.some.inj g4]
  · rw [Option.some.inj g2]
    by_cases hr : k < 0 ∨ 1 < k
    · rw [if_pos hr, if_neg (by omega)]
    · rw [if_neg hr, if_pos ⟨by omega, by omega⟩, if_pos (by omega)]
end LZS
