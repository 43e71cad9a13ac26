/-! THE START: texts, the whole walk -/
def rxTm (i : Nat) : Term := match i with
  | 0 => .string "DeadUnderstudies$Reader" 121
  | 1 => .string "DeadUnderstudies$Reader" 125
  | _ => .string "DeadUnderstudies$Reader" 123
def rxTl : List Nat := [4, 5, 5]
def rxTb : List (List Int32) := [[98, 97, 114, 115], [104, 111, 117, 114, 115], [115, 108, 105, 112, 115]]
theorem rxStart {args : Array Value} {s : State} (b : Nat) (h : (Jvm.Cond.and given_1 narrow_1).before args s = true) (hst : ∀ w ∈ lw_tbl, w.before args s = true) : ∃ ad : Nat → Nat, rxPX (fun q => s.heap.size ≤ q) (fun n => match n with
  | 0 => b
  | k + 1 => ad k) s := by
  have hs := flat_of_before _ h
  have hA : ∀ a : Nat, a < s.heap.size → ¬ s.heap.size ≤ a := fun a h1 h2 => Nat.not_lt.mpr h2 h1
  have i3 : ∀ {P : Nat → Prop}, P 0 → P 1 → P 2 → ∀ i : Nat, i < 3 → P i := fun h0 h1 h2 i hi => by
    rcases (show i = 0 ∨ i = 1 ∨ i = 2 by omega) with rfl | rfl | rfl
    · exact h0
    · exact h1
    · exact h2
  have ex0 : (Cond.exactly (.string "DeadUnderstudies$Reader" 121) "java/lang/String").before args s = true := hs _ (by decide +kernel)
  have co0 : (Cond.eq (.field (.string "DeadUnderstudies$Reader" 121) "java/lang/String" "coder" "B") (.int 0)).before args s = true := hs _ (by decide +kernel)
  have ar0 : (Cond.arrayOf (.field (.string "DeadUnderstudies$Reader" 121) "java/lang/String" "value" "[B") .byte).before args s = true := hs _ (by decide +kernel)
  have le0 : (Cond.eq (.length (.field (.string "DeadUnderstudies$Reader" 121) "java/lang/String" "value" "[B")) (.int 4)).before args s = true := hs _ (by decide +kernel)
  have el0_0 : (Cond.eq (.elem (.field (.string "DeadUnderstudies$Reader" 121) "java/lang/String" "value" "[B") (.int 0)) (.int 98)).before args s = true := hs _ (by decide +kernel)
  have el0_1 : (Cond.eq (.elem (.field (.string "DeadUnderstudies$Reader" 121) "java/lang/String" "value" "[B") (.int 1)) (.int 97)).before args s = true := hs _ (by decide +kernel)
  have el0_2 : (Cond.eq (.elem (.field (.string "DeadUnderstudies$Reader" 121) "java/lang/String" "value" "[B") (.int 2)) (.int 114)).before args s = true := hs _ (by decide +kernel)
  have el0_3 : (Cond.eq (.elem (.field (.string "DeadUnderstudies$Reader" 121) "java/lang/String" "value" "[B") (.int 3)) (.int 115)).before args s = true := hs _ (by decide +kernel)
  have ex1 : (Cond.exactly (.string "DeadUnderstudies$Reader" 125) "java/lang/String").before args s = true := hs _ (by decide +kernel)
  have co1 : (Cond.eq (.field (.string "DeadUnderstudies$Reader" 125) "java/lang/String" "coder" "B") (.int 0)).before args s = true := hs _ (by decide +kernel)
  have ar1 : (Cond.arrayOf (.field (.string "DeadUnderstudies$Reader" 125) "java/lang/String" "value" "[B") .byte).before args s = true := hs _ (by decide +kernel)
  have le1 : (Cond.eq (.length (.field (.string "DeadUnderstudies$Reader" 125) "java/lang/String" "value" "[B")) (.int 5)).before args s = true := hs _ (by decide +kernel)
  have el1_0 : (Cond.eq (.elem (.field (.string "DeadUnderstudies$Reader" 125) "java/lang/String" "value" "[B") (.int 0)) (.int 104)).before args s = true := hs _ (by decide +kernel)
  have el1_1 : (Cond.eq (.elem (.field (.string "DeadUnderstudies$Reader" 125) "java/lang/String" "value" "[B") (.int 1)) (.int 111)).before args s = true := hs _ (by decide +kernel)
  have el1_2 : (Cond.eq (.elem (.field (.string "DeadUnderstudies$Reader" 125) "java/lang/String" "value" "[B") (.int 2)) (.int 117)).before args s = true := hs _ (by decide +kernel)
  have el1_3 : (Cond.eq (.elem (.field (.string "DeadUnderstudies$Reader" 125) "java/lang/String" "value" "[B") (.int 3)) (.int 114)).before args s = true := hs _ (by decide +kernel)
  have el1_4 : (Cond.eq (.elem (.field (.string "DeadUnderstudies$Reader" 125) "java/lang/String" "value" "[B") (.int 4)) (.int 115)).before args s = true := hs _ (by decide +kernel)
  have ex2 : (Cond.exactly (.string "DeadUnderstudies$Reader" 123) "java/lang/String").before args s = true := hs _ (by decide +kernel)
  have co2 : (Cond.eq (.field (.string "DeadUnderstudies$Reader" 123) "java/lang/String" "coder" "B") (.int 0)).before args s = true := hs _ (by decide +kernel)
  have ar2 : (Cond.arrayOf (.field (.string "DeadUnderstudies$Reader" 123) "java/lang/String" "value" "[B") .byte).before args s = true := hs _ (by decide +kernel)
  have le2 : (Cond.eq (.length (.field (.string "DeadUnderstudies$Reader" 123) "java/lang/String" "value" "[B")) (.int 5)).before args s = true := hs _ (by decide +kernel)
  have el2_0 : (Cond.eq (.elem (.field (.string "DeadUnderstudies$Reader" 123) "java/lang/String" "value" "[B") (.int 0)) (.int 115)).before args s = true := hs _ (by decide +kernel)
  have el2_1 : (Cond.eq (.elem (.field (.string "DeadUnderstudies$Reader" 123) "java/lang/String" "value" "[B") (.int 1)) (.int 108)).before args s = true := hs _ (by decide +kernel)
  have el2_2 : (Cond.eq (.elem (.field (.string "DeadUnderstudies$Reader" 123) "java/lang/String" "value" "[B") (.int 2)) (.int 105)).before args s = true := hs _ (by decide +kernel)
  have el2_3 : (Cond.eq (.elem (.field (.string "DeadUnderstudies$Reader" 123) "java/lang/String" "value" "[B") (.int 3)) (.int 112)).before args s = true := hs _ (by decide +kernel)
  have el2_4 : (Cond.eq (.elem (.field (.string "DeadUnderstudies$Reader" 123) "java/lang/String" "value" "[B") (.int 4)) (.int 115)).before args s = true := hs _ (by decide +kernel)
  have ne0_2 : (Cond.not (Cond.eq (.string "DeadUnderstudies$Reader" 121) (.string "DeadUnderstudies$Reader" 123))).before args s = true := hs _ (by decide +kernel)
  have ne0_1 : (Cond.not (Cond.eq (.string "DeadUnderstudies$Reader" 121) (.string "DeadUnderstudies$Reader" 125))).before args s = true := hs _ (by decide +kernel)
  have ne2_1 : (Cond.not (Cond.eq (.string "DeadUnderstudies$Reader" 123) (.string "DeadUnderstudies$Reader" 125))).before args s = true := hs _ (by decide +kernel)
  have st : (Cond.eq (.static "java/lang/String" "COMPACT_STRINGS" "Z") (.int 1)).before args s = true := hs _ (by decide +kernel)
  have ini : (Cond.initialized "java/lang/String").before args s = true := hst _ (List.mem_filter.mp rxW_s3).1
  have hZ : va_Z "java/lang/String" "COMPACT_STRINGS" "Z" (.int 1) (fun q => s.heap.size ≤ q) s s.heap := va_Zof (hst _ rxW_z) ini (va_eqt st) hA
  have hel : ∀ i : Nat, i < 3 → ∀ j : Nat, j < rxTl.getD i 0 → (Cond.eq (.elem (.field (rxTm i) "java/lang/String" "value" "[B") (.int (Int32.ofNat j))) (.int ((rxTb.getD i []).getD j 0))).before args s = true := by
    refine i3 (fun j hj => ?_) (fun j hj => ?_) (fun j hj => ?_)
    · rcases (show j = 0 ∨ j = 1 ∨ j = 2 ∨ j = 3 from by have hj : j < 4 := hj; omega) with rfl | rfl | rfl | rfl
      · exact el0_0
      · exact el0_1
      · exact el0_2
      · exact el0_3
    · rcases (show j = 0 ∨ j = 1 ∨ j = 2 ∨ j = 3 ∨ j = 4 from by have hj : j < 5 := hj; omega) with rfl | rfl | rfl | rfl | rfl
      · exact el1_0
      · exact el1_1
      · exact el1_2
      · exact el1_3
      · exact el1_4
    · rcases (show j = 0 ∨ j = 1 ∨ j = 2 ∨ j = 3 ∨ j = 4 from by have hj : j < 5 := hj; omega) with rfl | rfl | rfl | rfl | rfl
      · exact el2_0
      · exact el2_1
      · exact el2_2
      · exact el2_3
      · exact el2_4
  have hne : ∀ i j : Nat, i < 3 → j < 3 → i ≠ j → (Cond.not (Cond.eq (rxTm i) (rxTm j))).before args s = true ∨ (Cond.not (Cond.eq (rxTm j) (rxTm i))).before args s = true := fun i j hi hj => by
    revert j
    revert i
    refine i3 (fun j => ?_) (fun j => ?_) (fun j => ?_)
    · revert j
      refine i3 (fun h => ?_) (fun h => ?_) (fun h => ?_)
      · exact absurd rfl h
      · exact Or.inl ne0_1
      · exact Or.inl ne0_2
    · revert j
      refine i3 (fun h => ?_) (fun h => ?_) (fun h => ?_)
      · exact Or.inr ne0_1
      · exact absurd rfl h
      · exact Or.inr ne2_1
    · revert j
      refine i3 (fun h => ?_) (fun h => ?_) (fun h => ?_)
      · exact Or.inr ne0_2
      · exact Or.inl ne2_1
      · exact absurd rfl h
  obtain ⟨adK, adV, hS, hev⟩ := vk_Sof (N := 3) (tm := rxTm) (len := rxTl) (byt := rxTb) (A := fun q => s.heap.size ≤ q) (i3 (by decide) (by decide) (by decide)) (i3 ex0 ex1 ex2) (i3 co0 co1 co2) (i3 ar0 ar1 ar2) (i3 le0 le1 le2) hel hne hA
  have hX : ∀ i : Nat, i < 3 → ∀ n : Nat, rxTl.getD i 0 = n → ∃ (av : Nat) (f : Nat → Value), rx_SX (fun q => s.heap.size ≤ q) (adK i) av n f s := fun i hi n hn => by
    subst hn
    obtain ⟨y1, y2, y3, y4⟩ := hS.1 i hi
    exact ⟨adV i, _, y1, y2, y3, y4, hZ⟩
  exact ⟨adK, vk_R.of (hst _ rxW_t121) (hev 0 (by decide)), vk_R.of (hst _ rxW_t123) (hev 2 (by decide)), vk_R.of (hst _ rxW_t125) (hev 1 (by decide)), hX 0 (by decide) 4 rfl, hX 1 (by decide) 5 rfl, hX 2 (by decide) 5 rfl⟩
