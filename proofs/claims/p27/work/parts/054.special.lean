noncomputable def rxCpL0 : List (Nat × Nat) := [(47, 1)]
noncomputable def rxCpL2 : List (Nat × Nat) := [(28, 0)]
noncomputable def rxCpL4 : List (Nat × Nat) := [(66, 1), (96, 2)]
noncomputable def rxCpL5 : List (Nat × Nat) := [(25, 0), (35, 2), (41, 1)]
noncomputable def rxCpL6 : List (Nat × Nat) := [(47, 0), (57, 2)]
noncomputable def rxCpL7 : List (Nat × Nat) := [(57, 1)]
noncomputable def rxCpL9 : List (Nat × Nat) := [(27, 0)]
noncomputable def rxCpL10 : List (Nat × Nat) := [(86, 0)]
noncomputable def rxCpL11 : List (Nat × Nat) := [(439, 2)]
noncomputable def rxCpL (o : Nat) : List (Nat × Nat) := match o with
  | 0 => rxCpL0
  | 2 => rxCpL2
  | 4 => rxCpL4
  | 5 => rxCpL5
  | 6 => rxCpL6
  | 7 => rxCpL7
  | 9 => rxCpL9
  | 10 => rxCpL10
  | 11 => rxCpL11
  | _ => []
noncomputable def rxCp (o idx : Nat) : Option Nat := rx_lku (rxCpL o) idx
noncomputable def rx_cpP (o idx k : Nat) : Prop := (k = 0 → Jvm.Cond.methodLink (rxNm o) idx arraycopyName ∈ rxG) ∧ (k = 1 → Jvm.Cond.methodLink (rxNm o) idx Lib.Math.min.name ∈ rxG) ∧ (2 ≤ k → Jvm.Cond.methodLink (rxNm o) idx Lib.Math.max.name ∈ rxG)
theorem rxCpO0 : ∀ p ∈ rxCpL0, rx_cpP 0 p.1 p.2 := rx_all_cons (⟨fun h => absurd (show (1 : Nat) = 0 from h) (by decide), fun _ => (rx_in (rx_at6 (n := 92) rfl) rfl), fun h => absurd (show 2 ≤ (1 : Nat) from h) (by decide)⟩) (rx_all_nil)
theorem rxCpO2 : ∀ p ∈ rxCpL2, rx_cpP 2 p.1 p.2 := rx_all_cons (⟨fun _ => (rx_in (rx_at7 (n := 18) rfl) rfl), fun h => absurd (show (0 : Nat) = 1 from h) (by decide), fun h => absurd (show 2 ≤ (0 : Nat) from h) (by decide)⟩) (rx_all_nil)
theorem rxCpO4 : ∀ p ∈ rxCpL4, rx_cpP 4 p.1 p.2 := rx_all_cons (⟨fun h => absurd (show (1 : Nat) = 0 from h) (by decide), fun _ => (rx_in (rx_at6 (n := 162) rfl) rfl), fun h => absurd (show 2 ≤ (1 : Nat) from h) (by decide)⟩) (rx_all_cons (⟨fun h => absurd (show (2 : Nat) = 0 from h) (by decide), fun h => absurd (show (2 : Nat) = 1 from h) (by decide), fun _ => (rx_in (rx_at6 (n := 191) rfl) rfl)⟩) (rx_all_nil))
theorem rxCpO5 : ∀ p ∈ rxCpL5, rx_cpP 5 p.1 p.2 := rx_all_cons (⟨fun _ => (rx_in (rx_at7 (n := 13) rfl) rfl), fun h => absurd (show (0 : Nat) = 1 from h) (by decide), fun h => absurd (show 2 ≤ (0 : Nat) from h) (by decide)⟩) (rx_all_cons (⟨fun h => absurd (show (2 : Nat) = 0 from h) (by decide), fun h => absurd (show (2 : Nat) = 1 from h) (by decide), fun _ => (rx_in (rx_at5 (n := 115) rfl) rfl)⟩) (rx_all_cons (⟨fun h => absurd (show (1 : Nat) = 0 from h) (by decide), fun _ => (rx_in (rx_at5 (n := 110) rfl) rfl), fun h => absurd (show 2 ≤ (1 : Nat) from h) (by decide)⟩) (rx_all_nil)))
theorem rxCpO6 : ∀ p ∈ rxCpL6, rx_cpP 6 p.1 p.2 := rx_all_cons (⟨fun _ => (rx_in (rx_at5 (n := 25) rfl) rfl), fun h => absurd (show (0 : Nat) = 1 from h) (by decide), fun h => absurd (show 2 ≤ (0 : Nat) from h) (by decide)⟩) (rx_all_cons (⟨fun h => absurd (show (2 : Nat) = 0 from h) (by decide), fun h => absurd (show (2 : Nat) = 1 from h) (by decide), fun _ => (rx_in (rx_at4 (n := 232) rfl) rfl)⟩) (rx_all_nil))
theorem rxCpO7 : ∀ p ∈ rxCpL7, rx_cpP 7 p.1 p.2 := rx_all_cons (⟨fun h => absurd (show (1 : Nat) = 0 from h) (by decide), fun _ => (rx_in (rx_at3 (n := 238) rfl) rfl), fun h => absurd (show 2 ≤ (1 : Nat) from h) (by decide)⟩) (rx_all_nil)
theorem rxCpO9 : ∀ p ∈ rxCpL9, rx_cpP 9 p.1 p.2 := rx_all_cons (⟨fun _ => (rx_in (rx_at5 (n := 88) rfl) rfl), fun h => absurd (show (0 : Nat) = 1 from h) (by decide), fun h => absurd (show 2 ≤ (0 : Nat) from h) (by decide)⟩) (rx_all_nil)
theorem rxCpO10 : ∀ p ∈ rxCpL10, rx_cpP 10 p.1 p.2 := rx_all_cons (⟨fun _ => (rx_in (rx_at7 (n := 7) rfl) rfl), fun h => absurd (show (0 : Nat) = 1 from h) (by decide), fun h => absurd (show 2 ≤ (0 : Nat) from h) (by decide)⟩) (rx_all_nil)
theorem rxCpO11 : ∀ p ∈ rxCpL11, rx_cpP 11 p.1 p.2 := rx_all_cons (⟨fun h => absurd (show (2 : Nat) = 0 from h) (by decide), fun h => absurd (show (2 : Nat) = 1 from h) (by decide), fun _ => (rx_in (rx_at6 (n := 8) rfl) rfl)⟩) (rx_all_nil)
theorem rxCp_ok : ∀ o idx k : Nat, rxCp o idx = some k → rx_cpP o idx k := fun o idx k h => by
  have h2 := rx_lku_mem h
  unfold rxCpL at h2
  split at h2
  · exact rxCpO0 _ h2
  · exact rxCpO2 _ h2
  · exact rxCpO4 _ h2
  · exact rxCpO5 _ h2
  · exact rxCpO6 _ h2
  · exact rxCpO7 _ h2
  · exact rxCpO9 _ h2
  · exact rxCpO10 _ h2
  · exact rxCpO11 _ h2
  · exact absurd h2 List.not_mem_nil
theorem rxMw_ok : Jvm.Cond.initialized "java/lang/Math" ∈ rxG ∧ (Jvm.Cond.static Lib.Math.min.name ∈ rxG ∧ Jvm.Cond.code Lib.Math.min.name Lib.Math.min.code 2 (some .int) ∈ rxG) ∧ Jvm.Cond.static Lib.Math.max.name ∈ rxG ∧ Jvm.Cond.code Lib.Math.max.name Lib.Math.max.code 2 (some .int) ∈ rxG := ⟨(rx_in (rx_at1 (n := 15) rfl) rfl), ⟨(rx_in (rx_at3 (n := 239) rfl) rfl), (rx_in (rx_at4 (n := 0) rfl) rfl)⟩, (rx_in (rx_at4 (n := 233) rfl) rfl), (rx_in (rx_at4 (n := 234) rfl) rfl)⟩
theorem rxCw_ok : Jvm.Cond.native arraycopyName ∈ rxG ∧ Jvm.Cond.static arraycopyName ∈ rxG ∧ Jvm.Cond.initialized "java/lang/System" ∈ rxG := ⟨(rx_in (rx_at5 (n := 27) rfl) rfl), (rx_in (rx_at5 (n := 26) rfl) rfl), (rx_in (rx_at1 (n := 20) rfl) rfl)⟩
noncomputable def rxSlL7 : List (Nat × Nat) := [(86, 533), (96, 524), (98, 531), (103, 541), (116, 529), (121, 525), (123, 542), (125, 530), (127, 532), (184, 537), (195, 522), (197, 538), (209, 539), (211, 535), (213, 543), (215, 527), (217, 545), (219, 536), (221, 540), (223, 534), (225, 526), (227, 528), (229, 544), (231, 546), (233, 523)]
noncomputable def rxSl (o idx : Nat) : Option Nat := match o with
  | 7 => rx_lku rxSlL7 idx
  | _ => none