/-! WORDS OF WHAT IS NOT WALKED, by program -/
def ry_xtP (o idx k : Nat) : Prop := (k = 10 → Jvm.Cond.methodLink (ryNm o) idx objectInit ∈ ryG) ∧ (k = 12 → Jvm.Cond.methodLink (ryNm o) idx yJ7_fill_53178 ∈ ryG) ∧ (k = 10 ∨ k = 12)
theorem ryXtO0 : ∀ p ∈ ryXtL0, ry_xtP 0 p.1 p.2 := ry_all_cons (⟨fun _ => (ry_in (ry_at2 (n := 234) rfl) rfl), fun h => absurd (show (10 : Nat) = 12 from h) (by decide), Or.inl rfl⟩) (ry_all_nil)
theorem ryXtO1 : ∀ p ∈ ryXtL1, ry_xtP 1 p.1 p.2 := ry_all_cons (⟨fun _ => (ry_in (ry_at2 (n := 196) rfl) rfl), fun h => absurd (show (10 : Nat) = 12 from h) (by decide), Or.inl rfl⟩) (ry_all_nil)
theorem ryXtO2 : ∀ p ∈ ryXtL2, ry_xtP 2 p.1 p.2 := ry_all_cons (⟨fun _ => (ry_in (ry_at1 (n := 73) rfl) rfl), fun h => absurd (show (10 : Nat) = 12 from h) (by decide), Or.inl rfl⟩) (ry_all_nil)
theorem ryXtO3 : ∀ p ∈ ryXtL3, ry_xtP 3 p.1 p.2 := ry_all_cons (⟨fun _ => (ry_in (ry_at2 (n := 87) rfl) rfl), fun h => absurd (show (10 : Nat) = 12 from h) (by decide), Or.inl rfl⟩) (ry_all_nil)
theorem ryXtO4 : ∀ p ∈ ryXtL4, ry_xtP 4 p.1 p.2 := ry_all_cons (⟨fun _ => (ry_in (ry_at2 (n := 147) rfl) rfl), fun h => absurd (show (10 : Nat) = 12 from h) (by decide), Or.inl rfl⟩) (ry_all_nil)
theorem ryXtO5 : ∀ p ∈ ryXtL5, ry_xtP 5 p.1 p.2 := ry_all_cons (⟨fun _ => (ry_in (ry_at1 (n := 43) rfl) rfl), fun h => absurd (show (10 : Nat) = 12 from h) (by decide), Or.inl rfl⟩) (ry_all_nil)
theorem ryXtO6 : ∀ p ∈ ryXtL6, ry_xtP 6 p.1 p.2 := ry_all_cons (⟨fun _ => (ry_in (ry_at1 (n := 120) rfl) rfl), fun h => absurd (show (10 : Nat) = 12 from h) (by decide), Or.inl rfl⟩) (ry_all_nil)
theorem ryXtO7 : ∀ p ∈ ryXtL7, ry_xtP 7 p.1 p.2 := ry_all_cons (⟨fun _ => (ry_in (ry_at2 (n := 7) rfl) rfl), fun h => absurd (show (10 : Nat) = 12 from h) (by decide), Or.inl rfl⟩) (ry_all_nil)
theorem ryXtO8 : ∀ p ∈ ryXtL8, ry_xtP 8 p.1 p.2 := ry_all_cons (⟨fun _ => (ry_in (ry_at2 (n := 59) rfl) rfl), fun h => absurd (show (10 : Nat) = 12 from h) (by decide), Or.inl rfl⟩) (ry_all_nil)
theorem ryXtO9 : ∀ p ∈ ryXtL9, ry_xtP 9 p.1 p.2 := ry_all_cons (⟨fun _ => (ry_in (ry_at1 (n := 101) rfl) rfl), fun h => absurd (show (10 : Nat) = 12 from h) (by decide), Or.inl rfl⟩) (ry_all_cons (⟨fun h => absurd (show (12 : Nat) = 10 from h) (by decide), fun _ => (ry_in (ry_at1 (n := 106) rfl) rfl), Or.inr rfl⟩) (ry_all_nil))
theorem ryXtO10 : ∀ p ∈ ryXtL10, ry_xtP 10 p.1 p.2 := ry_all_cons (⟨fun _ => (ry_in (ry_at1 (n := 35) rfl) rfl), fun h => absurd (show (10 : Nat) = 12 from h) (by decide), Or.inl rfl⟩) (ry_all_nil)
theorem ryXtO11 : ∀ p ∈ ryXtL11, ry_xtP 11 p.1 p.2 := ry_all_cons (⟨fun _ => (ry_in (ry_at1 (n := 27) rfl) rfl), fun h => absurd (show (10 : Nat) = 12 from h) (by decide), Or.inl rfl⟩) (ry_all_nil)
theorem ryXtO12 : ∀ p ∈ ryXtL12, ry_xtP 12 p.1 p.2 := ry_all_cons (⟨fun _ => (ry_in (ry_at7 (n := 36) rfl) rfl), fun h => absurd (show (10 : Nat) = 12 from h) (by decide), Or.inl rfl⟩) (ry_all_nil)
theorem ryXt_ok : ∀ o idx k : Nat, ry_lku (ryXtL o) idx = some k → ry_xtP o idx k := fun o idx k h => by
  have h2 := ry_lku_mem h
  unfold ryXtL at h2
  split at h2
  · exact ryXtO0 _ h2
  · exact ryXtO1 _ h2
  · exact ryXtO2 _ h2
  · exact ryXtO3 _ h2
  · exact ryXtO4 _ h2
  · exact ryXtO5 _ h2
  · exact ryXtO6 _ h2
  · exact ryXtO7 _ h2
  · exact ryXtO8 _ h2
  · exact ryXtO9 _ h2
  · exact ryXtO10 _ h2
  · exact ryXtO11 _ h2
  · exact ryXtO12 _ h2
  · exact absurd h2 List.not_mem_nil
theorem ryW_i1 : Jvm.Cond.instanceMethod objectInit ∈ ryG := (ry_in (ry_at1 (n := 28) rfl) rfl)
theorem ryW_i2 : Jvm.Cond.code objectInit ⟨#[0xb1]⟩ 1 none ∈ ryG := (ry_in (ry_at1 (n := 29) rfl) rfl)
theorem ryW_f1 : Jvm.Cond.static yJ7_fill_53178 ∈ ryG := (ry_in (ry_at1 (n := 107) rfl) rfl)
theorem ryW_f2 : Jvm.Cond.initialized "java/util/Arrays" ∈ ryG := (ry_in (ry_at1 (n := 6) rfl) rfl)
theorem ryW_f3 : Jvm.Cond.code yJ7_fill_53178 cJ7_fill_53178 4 none ∈ ryG := (ry_in (ry_at1 (n := 108) rfl) rfl)
