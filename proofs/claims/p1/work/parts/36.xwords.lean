/-! WORDS OF WHAT IS NOT WALKED, by program -/
def RJ0 : String := "java/lang/String"
abbrev cJ0_length_8abf5 : ByteArray := prog_17_method_54_code
def yJ0_length_8abf5 : MethodName := ⟨RJ0, "length", "()I"⟩
abbrev cJ0_coder_7d493 : ByteArray := prog_17_method_152_code
def yJ0_coder_7d493 : MethodName := ⟨RJ0, "coder", "()B"⟩
def RJ7 : String := "java/util/Arrays"
abbrev cJ7_fill_53178 : ByteArray := prog_21_method_103_code
def yJ7_fill_53178 : MethodName := ⟨RJ7, "fill", "([II)V"⟩
def rx_xtP (o idx k : Nat) : Prop := (k = 10 → Jvm.Cond.methodLink (rxNm o) idx objectInit ∈ rxG) ∧ (k = 11 → Jvm.Cond.methodLink (rxNm o) idx arraycopyName ∈ rxG) ∧ (k = 12 → Jvm.Cond.methodLink (rxNm o) idx yJ7_fill_53178 ∈ rxG) ∧ (k = 13 → Jvm.Cond.methodLink (rxNm o) idx Lib.Math.min.name ∈ rxG) ∧ (k = 14 → Jvm.Cond.methodLink (rxNm o) idx yJ0_length_8abf5 ∈ rxG)
theorem rxXtO0 : ∀ p ∈ rxXtL0, rx_xtP 0 p.1 p.2 := rx_all_cons (⟨fun _ => (rx_in (rx_at2 (n := 234) rfl) rfl), fun h => absurd (show (10 : Nat) = 11 from h) (by decide), fun h => absurd (show (10 : Nat) = 12 from h) (by decide), fun h => absurd (show (10 : Nat) = 13 from h) (by decide), fun h => absurd (show (10 : Nat) = 14 from h) (by decide)⟩) (rx_all_cons (⟨fun h => absurd (show (13 : Nat) = 10 from h) (by decide), fun h => absurd (show (13 : Nat) = 11 from h) (by decide), fun h => absurd (show (13 : Nat) = 12 from h) (by decide), fun _ => (rx_in (rx_at6 (n := 92) rfl) rfl), fun h => absurd (show (13 : Nat) = 14 from h) (by decide)⟩) (rx_all_cons (⟨fun h => absurd (show (12 : Nat) = 10 from h) (by decide), fun h => absurd (show (12 : Nat) = 11 from h) (by decide), fun _ => (rx_in (rx_at6 (n := 106) rfl) rfl), fun h => absurd (show (12 : Nat) = 13 from h) (by decide), fun h => absurd (show (12 : Nat) = 14 from h) (by decide)⟩) (rx_all_nil)))
theorem rxXtO1 : ∀ p ∈ rxXtL1, rx_xtP 1 p.1 p.2 := rx_all_cons (⟨fun _ => (rx_in (rx_at2 (n := 196) rfl) rfl), fun h => absurd (show (10 : Nat) = 11 from h) (by decide), fun h => absurd (show (10 : Nat) = 12 from h) (by decide), fun h => absurd (show (10 : Nat) = 13 from h) (by decide), fun h => absurd (show (10 : Nat) = 14 from h) (by decide)⟩) (rx_all_nil)
theorem rxXtO2 : ∀ p ∈ rxXtL2, rx_xtP 2 p.1 p.2 := rx_all_cons (⟨fun _ => (rx_in (rx_at1 (n := 73) rfl) rfl), fun h => absurd (show (10 : Nat) = 11 from h) (by decide), fun h => absurd (show (10 : Nat) = 12 from h) (by decide), fun h => absurd (show (10 : Nat) = 13 from h) (by decide), fun h => absurd (show (10 : Nat) = 14 from h) (by decide)⟩) (rx_all_cons (⟨fun h => absurd (show (11 : Nat) = 10 from h) (by decide), fun _ => (rx_in (rx_at7 (n := 18) rfl) rfl), fun h => absurd (show (11 : Nat) = 12 from h) (by decide), fun h => absurd (show (11 : Nat) = 13 from h) (by decide), fun h => absurd (show (11 : Nat) = 14 from h) (by decide)⟩) (rx_all_nil))
theorem rxXtO3 : ∀ p ∈ rxXtL3, rx_xtP 3 p.1 p.2 := rx_all_cons (⟨fun _ => (rx_in (rx_at2 (n := 87) rfl) rfl), fun h => absurd (show (10 : Nat) = 11 from h) (by decide), fun h => absurd (show (10 : Nat) = 12 from h) (by decide), fun h => absurd (show (10 : Nat) = 13 from h) (by decide), fun h => absurd (show (10 : Nat) = 14 from h) (by decide)⟩) (rx_all_nil)
theorem rxXtO4 : ∀ p ∈ rxXtL4, rx_xtP 4 p.1 p.2 := rx_all_cons (⟨fun _ => (rx_in (rx_at2 (n := 147) rfl) rfl), fun h => absurd (show (10 : Nat) = 11 from h) (by decide), fun h => absurd (show (10 : Nat) = 12 from h) (by decide), fun h => absurd (show (10 : Nat) = 13 from h) (by decide), fun h => absurd (show (10 : Nat) = 14 from h) (by decide)⟩) (rx_all_cons (⟨fun h => absurd (show (13 : Nat) = 10 from h) (by decide), fun h => absurd (show (13 : Nat) = 11 from h) (by decide), fun h => absurd (show (13 : Nat) = 12 from h) (by decide), fun _ => (rx_in (rx_at6 (n := 162) rfl) rfl), fun h => absurd (show (13 : Nat) = 14 from h) (by decide)⟩) (rx_all_cons (⟨fun h => absurd (show (12 : Nat) = 10 from h) (by decide), fun h => absurd (show (12 : Nat) = 11 from h) (by decide), fun _ => (rx_in (rx_at6 (n := 163) rfl) rfl), fun h => absurd (show (12 : Nat) = 13 from h) (by decide), fun h => absurd (show (12 : Nat) = 14 from h) (by decide)⟩) (rx_all_nil)))
theorem rxXtO5 : ∀ p ∈ rxXtL5, rx_xtP 5 p.1 p.2 := rx_all_cons (⟨fun _ => (rx_in (rx_at1 (n := 43) rfl) rfl), fun h => absurd (show (10 : Nat) = 11 from h) (by decide), fun h => absurd (show (10 : Nat) = 12 from h) (by decide), fun h => absurd (show (10 : Nat) = 13 from h) (by decide), fun h => absurd (show (10 : Nat) = 14 from h) (by decide)⟩) (rx_all_cons (⟨fun h => absurd (show (11 : Nat) = 10 from h) (by decide), fun _ => (rx_in (rx_at7 (n := 13) rfl) rfl), fun h => absurd (show (11 : Nat) = 12 from h) (by decide), fun h => absurd (show (11 : Nat) = 13 from h) (by decide), fun h => absurd (show (11 : Nat) = 14 from h) (by decide)⟩) (rx_all_nil))
theorem rxXtO6 : ∀ p ∈ rxXtL6, rx_xtP 6 p.1 p.2 := rx_all_cons (⟨fun _ => (rx_in (rx_at1 (n := 120) rfl) rfl), fun h => absurd (show (10 : Nat) = 11 from h) (by decide), fun h => absurd (show (10 : Nat) = 12 from h) (by decide), fun h => absurd (show (10 : Nat) = 13 from h) (by decide), fun h => absurd (show (10 : Nat) = 14 from h) (by decide)⟩) (rx_all_nil)
theorem rxXtO7 : ∀ p ∈ rxXtL7, rx_xtP 7 p.1 p.2 := rx_all_cons (⟨fun _ => (rx_in (rx_at2 (n := 7) rfl) rfl), fun h => absurd (show (10 : Nat) = 11 from h) (by decide), fun h => absurd (show (10 : Nat) = 12 from h) (by decide), fun h => absurd (show (10 : Nat) = 13 from h) (by decide), fun h => absurd (show (10 : Nat) = 14 from h) (by decide)⟩) (rx_all_cons (⟨fun h => absurd (show (13 : Nat) = 10 from h) (by decide), fun h => absurd (show (13 : Nat) = 11 from h) (by decide), fun h => absurd (show (13 : Nat) = 12 from h) (by decide), fun _ => (rx_in (rx_at3 (n := 238) rfl) rfl), fun h => absurd (show (13 : Nat) = 14 from h) (by decide)⟩) (rx_all_cons (⟨fun h => absurd (show (14 : Nat) = 10 from h) (by decide), fun h => absurd (show (14 : Nat) = 11 from h) (by decide), fun h => absurd (show (14 : Nat) = 12 from h) (by decide), fun h => absurd (show (14 : Nat) = 13 from h) (by decide), fun _ => (rx_in (rx_at4 (n := 30) rfl) rfl)⟩) (rx_all_nil)))
theorem rxXtO8 : ∀ p ∈ rxXtL8, rx_xtP 8 p.1 p.2 := rx_all_cons (⟨fun _ => (rx_in (rx_at2 (n := 59) rfl) rfl), fun h => absurd (show (10 : Nat) = 11 from h) (by decide), fun h => absurd (show (10 : Nat) = 12 from h) (by decide), fun h => absurd (show (10 : Nat) = 13 from h) (by decide), fun h => absurd (show (10 : Nat) = 14 from h) (by decide)⟩) (rx_all_nil)
theorem rxXtO9 : ∀ p ∈ rxXtL9, rx_xtP 9 p.1 p.2 := rx_all_cons (⟨fun _ => (rx_in (rx_at1 (n := 101) rfl) rfl), fun h => absurd (show (10 : Nat) = 11 from h) (by decide), fun h => absurd (show (10 : Nat) = 12 from h) (by decide), fun h => absurd (show (10 : Nat) = 13 from h) (by decide), fun h => absurd (show (10 : Nat) = 14 from h) (by decide)⟩) (rx_all_cons (⟨fun h => absurd (show (12 : Nat) = 10 from h) (by decide), fun h => absurd (show (12 : Nat) = 11 from h) (by decide), fun _ => (rx_in (rx_at1 (n := 106) rfl) rfl), fun h => absurd (show (12 : Nat) = 13 from h) (by decide), fun h => absurd (show (12 : Nat) = 14 from h) (by decide)⟩) (rx_all_cons (⟨fun h => absurd (show (11 : Nat) = 10 from h) (by decide), fun _ => (rx_in (rx_at5 (n := 88) rfl) rfl), fun h => absurd (show (11 : Nat) = 12 from h) (by decide), fun h => absurd (show (11 : Nat) = 13 from h) (by decide), fun h => absurd (show (11 : Nat) = 14 from h) (by decide)⟩) (rx_all_nil)))
theorem rxXtO10 : ∀ p ∈ rxXtL10, rx_xtP 10 p.1 p.2 := rx_all_cons (⟨fun _ => (rx_in (rx_at1 (n := 35) rfl) rfl), fun h => absurd (show (10 : Nat) = 11 from h) (by decide), fun h => absurd (show (10 : Nat) = 12 from h) (by decide), fun h => absurd (show (10 : Nat) = 13 from h) (by decide), fun h => absurd (show (10 : Nat) = 14 from h) (by decide)⟩) (rx_all_cons (⟨fun h => absurd (show (11 : Nat) = 10 from h) (by decide), fun _ => (rx_in (rx_at7 (n := 7) rfl) rfl), fun h => absurd (show (11 : Nat) = 12 from h) (by decide), fun h => absurd (show (11 : Nat) = 13 from h) (by decide), fun h => absurd (show (11 : Nat) = 14 from h) (by decide)⟩) (rx_all_nil))
theorem rxXtO11 : ∀ p ∈ rxXtL11, rx_xtP 11 p.1 p.2 := rx_all_cons (⟨fun _ => (rx_in (rx_at1 (n := 27) rfl) rfl), fun h => absurd (show (10 : Nat) = 11 from h) (by decide), fun h => absurd (show (10 : Nat) = 12 from h) (by decide), fun h => absurd (show (10 : Nat) = 13 from h) (by decide), fun h => absurd (show (10 : Nat) = 14 from h) (by decide)⟩) (rx_all_nil)
theorem rxXtO12 : ∀ p ∈ rxXtL12, rx_xtP 12 p.1 p.2 := rx_all_cons (⟨fun _ => (rx_in (rx_at7 (n := 36) rfl) rfl), fun h => absurd (show (10 : Nat) = 11 from h) (by decide), fun h => absurd (show (10 : Nat) = 12 from h) (by decide), fun h => absurd (show (10 : Nat) = 13 from h) (by decide), fun h => absurd (show (10 : Nat) = 14 from h) (by decide)⟩) (rx_all_nil)
theorem rxXt_ok : ∀ o idx k : Nat, rx_lku (rxXtL o) idx = some k → rx_xtP o idx k := fun o idx k h => by
  have h2 := rx_lku_mem h
  unfold rxXtL at h2
  split at h2
  · exact rxXtO0 _ h2
  · exact rxXtO1 _ h2
  · exact rxXtO2 _ h2
  · exact rxXtO3 _ h2
  · exact rxXtO4 _ h2
  · exact rxXtO5 _ h2
  · exact rxXtO6 _ h2
  · exact rxXtO7 _ h2
  · exact rxXtO8 _ h2
  · exact rxXtO9 _ h2
  · exact rxXtO10 _ h2
  · exact rxXtO11 _ h2
  · exact rxXtO12 _ h2
  · exact absurd h2 List.not_mem_nil
theorem rxW_i1 : Jvm.Cond.instanceMethod objectInit ∈ rxG := (rx_in (rx_at1 (n := 28) rfl) rfl)
theorem rxW_i2 : Jvm.Cond.code objectInit ⟨#[0xb1]⟩ 1 none ∈ rxG := (rx_in (rx_at1 (n := 29) rfl) rfl)
theorem rxW_c1 : Jvm.Cond.native arraycopyName ∈ rxG := (rx_in (rx_at5 (n := 27) rfl) rfl)
theorem rxW_c2 : Jvm.Cond.static arraycopyName ∈ rxG := (rx_in (rx_at5 (n := 26) rfl) rfl)
theorem rxW_c3 : Jvm.Cond.initialized "java/lang/System" ∈ rxG := (rx_in (rx_at1 (n := 20) rfl) rfl)
theorem rxW_f1 : Jvm.Cond.static yJ7_fill_53178 ∈ rxG := (rx_in (rx_at1 (n := 107) rfl) rfl)
theorem rxW_f2 : Jvm.Cond.initialized "java/util/Arrays" ∈ rxG := (rx_in (rx_at1 (n := 6) rfl) rfl)
theorem rxW_f3 : Jvm.Cond.code yJ7_fill_53178 cJ7_fill_53178 4 none ∈ rxG := (rx_in (rx_at1 (n := 108) rfl) rfl)
theorem rxW_m1 : Jvm.Cond.static Lib.Math.min.name ∈ rxG := (rx_in (rx_at3 (n := 239) rfl) rfl)
theorem rxW_m2 : Jvm.Cond.initialized "java/lang/Math" ∈ rxG := (rx_in (rx_at1 (n := 15) rfl) rfl)
theorem rxW_m3 : Jvm.Cond.code Lib.Math.min.name Lib.Math.min.code 2 (some .int) ∈ rxG := (rx_in (rx_at4 (n := 0) rfl) rfl)
theorem rxW_s1 : Jvm.Cond.instanceMethod yJ0_length_8abf5 ∈ rxG := (rx_in (rx_at4 (n := 31) rfl) rfl)
theorem rxW_s2 : Jvm.Cond.selects "java/lang/String" yJ0_length_8abf5 yJ0_length_8abf5 ∈ rxG := (rx_in (rx_at4 (n := 32) rfl) rfl)
theorem rxW_s3 : Jvm.Cond.initialized "java/lang/String" ∈ rxG := (rx_in (rx_at1 (n := 16) rfl) rfl)
theorem rxW_s4 : Jvm.Cond.code yJ0_length_8abf5 cJ0_length_8abf5 1 (some .int) ∈ rxG := (rx_in (rx_at4 (n := 33) rfl) rfl)
theorem rxW_s5 : Jvm.Cond.methodLink "java/lang/String" 335 yJ0_coder_7d493 ∈ rxG := (rx_in (rx_at4 (n := 34) rfl) rfl)
theorem rxW_s6 : Jvm.Cond.instanceMethod yJ0_coder_7d493 ∈ rxG := (rx_in (rx_at4 (n := 35) rfl) rfl)
theorem rxW_s7 : Jvm.Cond.selects "java/lang/String" yJ0_coder_7d493 yJ0_coder_7d493 ∈ rxG := (rx_in (rx_at4 (n := 36) rfl) rfl)
theorem rxW_s8 : Jvm.Cond.code yJ0_coder_7d493 cJ0_coder_7d493 1 (some .byte) ∈ rxG := (rx_in (rx_at4 (n := 37) rfl) rfl)
theorem rxW_s9 : Jvm.Cond.fieldLink "java/lang/String" 9 "java/lang/String" "value" "[B" ∈ rxG := (rx_in (rx_at10 (n := 115) rfl) rfl)
theorem rxW_s10 : Jvm.Cond.fieldLink "java/lang/String" 38 "java/lang/String" "COMPACT_STRINGS" "Z" ∈ rxG := (rx_in (rx_at4 (n := 38) rfl) rfl)
theorem rxW_s11 : Jvm.Cond.fieldLink "java/lang/String" 15 "java/lang/String" "coder" "B" ∈ rxG := (rx_in (rx_at10 (n := 116) rfl) rfl)
theorem rxW_t121 : Jvm.Cond.stringRef "DeadUnderstudies$Reader" 121 "bars" ∈ lw_tbl := rx_at4 (n := 201) rfl
theorem rxW_t123 : Jvm.Cond.stringRef "DeadUnderstudies$Reader" 123 "slips" ∈ lw_tbl := rx_at4 (n := 202) rfl
theorem rxW_t125 : Jvm.Cond.stringRef "DeadUnderstudies$Reader" 125 "hours" ∈ lw_tbl := rx_at4 (n := 203) rfl
theorem rxW_z : Jvm.Cond.laysStatic "java/lang/String" "COMPACT_STRINGS" "Z" ∈ lw_tbl := rx_at4 (n := 39) rfl
