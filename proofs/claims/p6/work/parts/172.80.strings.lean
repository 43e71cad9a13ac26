/-! THE JDK: String.length and charAt of constants, by program (wip/sim/genstr.py) -/
def rsY_coder : MethodName := ⟨"java/lang/String", "coder", "()B"⟩
abbrev rsB_coder : ByteArray := prog_17_method_152_code
theorem rsK_coder : Jvm.Cond.code rsY_coder rsB_coder 1 (some .byte) ∈ rxG := (rx_in (rx_at4 (n := 37) rfl) rfl)
def rsY_isl : MethodName := ⟨"java/lang/String", "isLatin1", "()Z"⟩
abbrev rsB_isl : ByteArray := prog_17_method_154_code
theorem rsK_isl : Jvm.Cond.code rsY_isl rsB_isl 1 (some .boolean) ∈ rxG := (rx_in (rx_at4 (n := 47) rfl) rfl)
def rsY_len : MethodName := ⟨"java/lang/String", "length", "()I"⟩
abbrev rsB_len : ByteArray := prog_17_method_54_code
theorem rsK_len : Jvm.Cond.code rsY_len rsB_len 1 (some .int) ∈ rxG := (rx_in (rx_at4 (n := 33) rfl) rfl)
def rsY_pci : MethodName := ⟨"jdk/internal/util/Preconditions", "checkIndex", "(IILjava/util/function/BiFunction;)I"⟩
abbrev rsB_pci : ByteArray := prog_22_method_11_code
theorem rsK_pci : Jvm.Cond.code rsY_pci rsB_pci 3 (some .int) ∈ rxG := (rx_in (rx_at4 (n := 58) rfl) rfl)
def rsY_ci : MethodName := ⟨"java/lang/String", "checkIndex", "(II)V"⟩
abbrev rsB_ci : ByteArray := prog_17_method_155_code
theorem rsK_ci : Jvm.Cond.code rsY_ci rsB_ci 2 none ∈ rxG := (rx_in (rx_at4 (n := 53) rfl) rfl)
def rsY_lch : MethodName := ⟨"java/lang/StringLatin1", "charAt", "([BI)C"⟩
abbrev rsB_lch : ByteArray := prog_18_method_2_code
theorem rsK_lch : Jvm.Cond.code rsY_lch rsB_lch 2 (some .char) ∈ rxG := (rx_in (rx_at4 (n := 50) rfl) rfl)
def rsY_chr : MethodName := ⟨"java/lang/String", "charAt", "(I)C"⟩
abbrev rsB_chr : ByteArray := prog_17_method_56_code
theorem rsK_chr : Jvm.Cond.code rsY_chr rsB_chr 2 (some .char) ∈ rxG := (rx_in (rx_at4 (n := 43) rfl) rfl)
theorem rsW_iS : Jvm.Cond.initialized "java/lang/String" ∈ rxG := (rx_in (rx_at1 (n := 16) rfl) rfl)
theorem rsW_iL : Jvm.Cond.initialized "java/lang/StringLatin1" ∈ rxG := (rx_in (rx_at1 (n := 17) rfl) rfl)
theorem rsW_iP : Jvm.Cond.initialized "jdk/internal/util/Preconditions" ∈ rxG := (rx_in (rx_at1 (n := 18) rfl) rfl)
theorem rsW_cs : Jvm.Cond.fieldLink "java/lang/String" 38 "java/lang/String" "COMPACT_STRINGS" "Z" ∈ rxG := (rx_in (rx_at4 (n := 38) rfl) rfl)
theorem rsW_co : Jvm.Cond.fieldLink "java/lang/String" 15 "java/lang/String" "coder" "B" ∈ rxG := (rx_in (rx_at10 (n := 116) rfl) rfl)
theorem rsW_va : Jvm.Cond.fieldLink "java/lang/String" 9 "java/lang/String" "value" "[B" ∈ rxG := (rx_in (rx_at10 (n := 115) rfl) rfl)
theorem rsW_fo : Jvm.Cond.fieldLink "java/lang/String" 1053 "jdk/internal/util/Preconditions" "SIOOBE_FORMATTER" "Ljava/util/function/BiFunction;" ∈ rxG := (rx_in (rx_at4 (n := 54) rfl) rfl)
theorem rsW_mco : Jvm.Cond.methodLink "java/lang/String" 335 rsY_coder ∈ rxG := (rx_in (rx_at4 (n := 34) rfl) rfl)
theorem rsW_mis : Jvm.Cond.methodLink "java/lang/String" 492 rsY_isl ∈ rxG := (rx_in (rx_at4 (n := 44) rfl) rfl)
theorem rsW_mlc : Jvm.Cond.methodLink "java/lang/String" 495 rsY_lch ∈ rxG := (rx_in (rx_at4 (n := 48) rfl) rfl)
theorem rsW_mci : Jvm.Cond.methodLink "java/lang/StringLatin1" 9 rsY_ci ∈ rxG := (rx_in (rx_at4 (n := 51) rfl) rfl)
theorem rsW_mpc : Jvm.Cond.methodLink "java/lang/String" 1059 rsY_pci ∈ rxG := (rx_in (rx_at4 (n := 56) rfl) rfl)
theorem rsW_mle : Jvm.Cond.methodLink "DeadUnderstudies$Reader" 238 rsY_len ∈ rxG := (rx_in (rx_at4 (n := 30) rfl) rfl)
theorem rsW_mch : Jvm.Cond.methodLink "DeadUnderstudies$Reader" 242 rsY_chr ∈ rxG := (rx_in (rx_at4 (n := 40) rfl) rfl)
theorem rsW_in_coder : Jvm.Cond.instanceMethod rsY_coder ∈ rxG := (rx_in (rx_at4 (n := 35) rfl) rfl)
theorem rsW_se_coder : Jvm.Cond.selects "java/lang/String" rsY_coder rsY_coder ∈ rxG := (rx_in (rx_at4 (n := 36) rfl) rfl)
theorem rsW_in_isl : Jvm.Cond.instanceMethod rsY_isl ∈ rxG := (rx_in (rx_at4 (n := 45) rfl) rfl)
theorem rsW_se_isl : Jvm.Cond.selects "java/lang/String" rsY_isl rsY_isl ∈ rxG := (rx_in (rx_at4 (n := 46) rfl) rfl)
theorem rsW_in_len : Jvm.Cond.instanceMethod rsY_len ∈ rxG := (rx_in (rx_at4 (n := 31) rfl) rfl)
theorem rsW_se_len : Jvm.Cond.selects "java/lang/String" rsY_len rsY_len ∈ rxG := (rx_in (rx_at4 (n := 32) rfl) rfl)
theorem rsW_in_chr : Jvm.Cond.instanceMethod rsY_chr ∈ rxG := (rx_in (rx_at4 (n := 41) rfl) rfl)
theorem rsW_se_chr : Jvm.Cond.selects "java/lang/String" rsY_chr rsY_chr ∈ rxG := (rx_in (rx_at4 (n := 42) rfl) rfl)
theorem rsW_st_pci : Jvm.Cond.static rsY_pci ∈ rxG := (rx_in (rx_at4 (n := 57) rfl) rfl)
theorem rsW_st_ci : Jvm.Cond.static rsY_ci ∈ rxG := (rx_in (rx_at4 (n := 52) rfl) rfl)
theorem rsW_st_lch : Jvm.Cond.static rsY_lch ∈ rxG := (rx_in (rx_at4 (n := 49) rfl) rfl)
theorem rsD_coder_0 : decode rsB_coder 0 = .ok (.getstatic 38, 3) := by decide +kernel
theorem rsD_coder_3 : decode rsB_coder 3 = .ok (.ifCond .eq 10, 3) := by decide +kernel
theorem rsD_coder_6 : decode rsB_coder 6 = .ok (.aload_n 0, 1) := by decide +kernel
theorem rsD_coder_7 : decode rsB_coder 7 = .ok (.getfield 15, 3) := by decide +kernel
theorem rsD_coder_10 : decode rsB_coder 10 = .ok (.goto 4, 3) := by decide +kernel
theorem rsD_coder_14 : decode rsB_coder 14 = .ok (.ireturn, 1) := by decide +kernel
theorem rsD_isl_0 : decode rsB_isl 0 = .ok (.getstatic 38, 3) := by decide +kernel
theorem rsD_isl_3 : decode rsB_isl 3 = .ok (.ifCond .eq 14, 3) := by decide +kernel
theorem rsD_isl_6 : decode rsB_isl 6 = .ok (.aload_n 0, 1) := by decide +kernel
theorem rsD_isl_7 : decode rsB_isl 7 = .ok (.getfield 15, 3) := by decide +kernel
theorem rsD_isl_10 : decode rsB_isl 10 = .ok (.ifCond .ne 7, 3) := by decide +kernel
theorem rsD_isl_13 : decode rsB_isl 13 = .ok (.iconst 1, 1) := by decide +kernel
theorem rsD_isl_14 : decode rsB_isl 14 = .ok (.goto 4, 3) := by decide +kernel
theorem rsD_isl_18 : decode rsB_isl 18 = .ok (.ireturn, 1) := by decide +kernel
theorem rsD_len_0 : decode rsB_len 0 = .ok (.aload_n 0, 1) := by decide +kernel
theorem rsD_len_1 : decode rsB_len 1 = .ok (.getfield 9, 3) := by decide +kernel
theorem rsD_len_4 : decode rsB_len 4 = .ok (.arraylength, 1) := by decide +kernel
theorem rsD_len_5 : decode rsB_len 5 = .ok (.aload_n 0, 1) := by decide +kernel
theorem rsD_len_6 : decode rsB_len 6 = .ok (.invokevirtual 335, 3) := by decide +kernel
theorem rsD_len_9 : decode rsB_len 9 = .ok (.ishr, 1) := by decide +kernel
theorem rsD_len_10 : decode rsB_len 10 = .ok (.ireturn, 1) := by decide +kernel
theorem rsD_pci_0 : decode rsB_pci 0 = .ok (.iload_n 0, 1) := by decide +kernel
theorem rsD_pci_1 : decode rsB_pci 1 = .ok (.ifCond .lt 8, 3) := by decide +kernel
theorem rsD_pci_4 : decode rsB_pci 4 = .ok (.iload_n 0, 1) := by decide +kernel
theorem rsD_pci_5 : decode rsB_pci 5 = .ok (.iload_n 1, 1) := by decide +kernel
theorem rsD_pci_6 : decode rsB_pci 6 = .ok (.if_icmp .lt 10, 3) := by decide +kernel
theorem rsD_pci_16 : decode rsB_pci 16 = .ok (.iload_n 0, 1) := by decide +kernel
theorem rsD_pci_17 : decode rsB_pci 17 = .ok (.ireturn, 1) := by decide +kernel
theorem rsD_ci_0 : decode rsB_ci 0 = .ok (.iload_n 0, 1) := by decide +kernel
theorem rsD_ci_1 : decode rsB_ci 1 = .ok (.iload_n 1, 1) := by decide +kernel
theorem rsD_ci_2 : decode rsB_ci 2 = .ok (.getstatic 1053, 3) := by decide +kernel
theorem rsD_ci_5 : decode rsB_ci 5 = .ok (.invokestatic 1059, 3) := by decide +kernel
theorem rsD_ci_8 : decode rsB_ci 8 = .ok (.pop, 1) := by decide +kernel
theorem rsD_ci_9 : decode rsB_ci 9 = .ok (.return_, 1) := by decide +kernel
theorem rsD_lch_0 : decode rsB_lch 0 = .ok (.iload_n 1, 1) := by decide +kernel
theorem rsD_lch_1 : decode rsB_lch 1 = .ok (.aload_n 0, 1) := by decide +kernel
theorem rsD_lch_2 : decode rsB_lch 2 = .ok (.arraylength, 1) := by decide +kernel
theorem rsD_lch_3 : decode rsB_lch 3 = .ok (.invokestatic 9, 3) := by decide +kernel
theorem rsD_lch_6 : decode rsB_lch 6 = .ok (.aload_n 0, 1) := by decide +kernel
theorem rsD_lch_7 : decode rsB_lch 7 = .ok (.iload_n 1, 1) := by decide +kernel
theorem rsD_lch_8 : decode rsB_lch 8 = .ok (.baload, 1) := by decide +kernel
theorem rsD_lch_9 : decode rsB_lch 9 = .ok (.sipush 255, 3) := by decide +kernel
theorem rsD_lch_12 : decode rsB_lch 12 = .ok (.iand, 1) := by decide +kernel
theorem rsD_lch_13 : decode rsB_lch 13 = .ok (.i2c, 1) := by decide +kernel
theorem rsD_lch_14 : decode rsB_lch 14 = .ok (.ireturn, 1) := by decide +kernel
theorem rsD_chr_0 : decode rsB_chr 0 = .ok (.aload_n 0, 1) := by decide +kernel
theorem rsD_chr_1 : decode rsB_chr 1 = .ok (.invokevirtual 492, 3) := by decide +kernel
theorem rsD_chr_4 : decode rsB_chr 4 = .ok (.ifCond .eq 12, 3) := by decide +kernel
theorem rsD_chr_7 : decode rsB_chr 7 = .ok (.aload_n 0, 1) := by decide +kernel
theorem rsD_chr_8 : decode rsB_chr 8 = .ok (.getfield 9, 3) := by decide +kernel
theorem rsD_chr_11 : decode rsB_chr 11 = .ok (.iload_n 1, 1) := by decide +kernel
theorem rsD_chr_12 : decode rsB_chr 12 = .ok (.invokestatic 495, 3) := by decide +kernel
theorem rsD_chr_15 : decode rsB_chr 15 = .ok (.ireturn, 1) := by decide +kernel
def rs_rm (d : Nat) : Room := { frames := d, cells := 0, slots := 0, locals := d * 40 }
/-- an answer, and the heap as it was -/
def rs_Q (post : Option Value → Prop) : Array Value → State → Outcome → State → Prop := fun _ st oc t => (∃ v : Option Value, oc = .returned v ∧ post v) ∧ t.heap = st.heap
/-- a text's cells, and the statics that its methods read -/
def rs_T (A : Nat → Prop) (a v n : Nat) (U : State) : Prop := va_O "java/lang/String" a A U U.heap ∧ va_OF "java/lang/String" "coder" "B" (.int 0) a A U U.heap ∧ va_OF "java/lang/String" "value" "[B" (.ref v) a A U U.heap ∧ (∃ f : Nat → Int32, va_T .byte v n (fun j => .int (f j)) A U U.heap) ∧ n < 1000 ∧ va_Z "java/lang/String" "COMPACT_STRINGS" "Z" (.int 1) A U U.heap ∧ va_Zq "jdk/internal/util/Preconditions" "SIOOBE_FORMATTER" "Ljava/util/function/BiFunction;" A U U.heap
theorem rs_T.to {A : Nat → Prop} {a v n : Nat} {u U : State} (h : rs_T A a v n u) (hvm : u.vm.Alike U.vm) (hh : U.heap = u.heap) : rs_T A a v n U := by
  obtain ⟨h1, h2, h3, ⟨f, h4⟩, h5, h6, h7⟩ := h
  unfold rs_T
  rw [hh]
  exact ⟨h1.moved hvm, h2.moved hvm, h3.moved hvm, ⟨f, h4.moved hvm⟩, h5, h6.moved hvm, h7.moved hvm⟩
theorem rs_T.kept {A : Nat → Prop} {a v n : Nat} {u U : State} (h : rs_T A a v n u) (hvm : u.vm.Alike U.vm) (hq : ∀ a : Nat, a < u.heap.size → ¬ A a → U.heap[a]? = u.heap[a]?) : rs_T A a v n U := by
  obtain ⟨h1, h2, h3, ⟨f, h4⟩, h5, h6, h7⟩ := h
  exact ⟨(h1.moved hvm).kept hq, (h2.moved hvm).kept hq, (h3.moved hvm).kept hq, ⟨f, (h4.moved hvm).kept hq⟩, h5, (h6.moved hvm).kept hq, (h7.moved hvm).kept hq⟩
theorem rs_blind {A : Nat → Prop} {a v n : Nat} {as : List Value} : FrameBlind (va_Pc as (rs_T A a v n)) := fun _ U g mk h => ⟨h.1, h.2.to (U := U.calling g mk _) (Vm.Alike.refl U.vm) rfl⟩
theorem rs_blindT {as : List Value} : FrameBlind (va_Pc as (fun _ => True)) := fun _ _ _ _ h => ⟨h.1, trivial⟩
section RSA
variable {p : Program} {l : Launch} {e : Env} {R : Room} {s : State} {m : MethodId} {args : Array Value} {below : List Frame} {meth : Method} {c : Code} {H H0 : Heap} {locs : List Loc} {cells slots : Nat} {Q : State → Prop} {A : Nat → Prop}
theorem rs_B {own : String} {index d n maxL : Nat} {y : MethodName} {bytes : ByteArray} {ret : Option FieldType} (hts : ∀ w ∈ rxG, w.before args s = true) (m2 : Cond.code y bytes maxL ret ∈ rxG) (m4 : Cond.initialized y.cls ∈ rxG) (m5 : y.cls ≠ "java/lang/invoke/MethodHandle" ∧ y.cls ≠ "java/lang/invoke/VarHandle") (hdesc : (parseMethodDescriptor y.desc).map (fun d => d.parameters.length) = some n) (mlk : Cond.methodLink own index y ∈ rxG) (hd : d + 1 ≤ R.frames) (hdl : (d + 1) * 40 ≤ R.locals) (hmx : maxL ≤ 20) :
    CallB R s args own index y bytes maxL ret (Cond.code y bytes maxL ret :: rxG) (rs_rm d) 0 0 n := by
  have hGI : GoodIn rxG (Cond.code y bytes maxL ret :: rxG) := fun w hw => by
    rcases List.mem_cons.mp hw with h | h
    · subst h; exact ⟨m2, good_of_word (rxGgood _ m2)⟩
    · exact ⟨h, good_of_word (rxGgood _ h)⟩
  refine ⟨rfl, rfl, hd, ?_, pay_in hts hGI, List.mem_cons_self, hts _ m2, hts _ m4, m5, fun sig h => ?_, hts _ mlk⟩
  · show 8 + (maxL + 11) + d * 40 ≤ R.locals
    omega
  · rw [h] at hdesc
    exact (Option.some.inj hdesc).symm
theorem rs_go {post : Option Value → Prop} {a : Array Value} {pc : Nat} {ls : Array Slot} {st0 rest : List Value} (hr : va_Run p l e R s m args below meth c H locs cells slots 0 0 (F0 m pc ls st0) rest (rs_Q post a) A) (hS : va_S A H0 H locs) (kk : ∀ (v : Option Value) (locs1 : List Loc), post v → va_S A H0 H locs1 → W p l e R s m args below meth c H locs1 cells slots Q (F0 m (pc + 3) ls (v.toList ++ rest))) : W p l e R s m args below meth c H locs cells slots Q (F0 m pc ls st0) := by
  refine rx_call hr hS (fun st oc t h => ⟨by rw [h.2]; exact Nat.le_refl _, fun q _ _ => by rw [h.2]⟩) fun v st t H1 locs1 ht hst hvm hpost hS1 => ?_
  obtain ⟨⟨v', hv, hp⟩, hh⟩ := hpost
  cases hv
  have e : H1 = H := ht.symm.trans (hh.trans hst)
  subst e
  exact kk v locs1 hp hS1
end RSA

set_option maxHeartbeats 4000000 in
set_option maxRecDepth 100000 in
theorem rsM_coder (l : Launch) (A : Nat → Prop) (a v n : Nat) : Met l rsY_coder (Jvm.Cond.code rsY_coder rsB_coder 1 (some .byte) :: rxG) (rs_rm 0) (va_Pc [.ref a] (rs_T A a v n)) (rs_Q (fun w => w = some (.int 0))) 0 0 A := by
  refine Met.ofW (cc := rsB_coder) (maxL := 1) (ret := (some .byte)) (by decide) rfl ?_
  intro p e s m args below meth c s₁ B hml hv
  obtain ⟨rfl, hT⟩ := hv
  have hx := B.exec
  have hb := B.bytes
  have hr := B.returns
  have hts0 := atoms_spec (ws := Jvm.Cond.code rsY_coder rsB_coder 1 (some .byte) :: rxG) B.pre
  have hts : ∀ w ∈ rxG, w.before _ s = true := fun w h => hts0 w (List.mem_cons_of_mem _ h)
  have hown : s.vm.findClass "java/lang/String" = some m.cls := findClass_of_methodNamed B.named
  have hlocks := B.notSynchronized
  have hS : va_S A s.heap s.heap [] := va_S.rf
  have hl := lv_entry ([.ref a]) (n := 1) (Nat.le_of_ble_eq_true rfl)
  rw [lg_entry_eq]
  generalize (lg_sl ([.ref a]) ++ List.replicate (1 - (lg_sl ([.ref a])).length) Slot.unset).toArray = ls at hl ⊢
  have hl : lv_has ls 1 [(0, .ref a)] := hl
  obtain ⟨t1, t2, t3, t4, t5, t6, t7⟩ := id hT
  refine va_gets hx hb t6 hS hown (hts _ rsW_cs) (fun _ h => h) rsD_coder_0 ?_
  refine lv_if_eq hx hb rsD_coder_3 (tgt := 13) rfl (fun h => absurd h (by decide)) (fun _ => ?_)
  refine lv_aload_n hx hb rsD_coder_6 rfl (lv_at hl 0 rfl) ?_
  refine vk_getf hx hb t2 hS hown (hts _ rsW_co) (fun _ h => h) rsD_coder_7 ?_
  refine lv_goto hx hb rsD_coder_10 (tgt := 14) rfl ?_
  exact W.zret hx hb hr (by decide) (fun t ht hW => ⟨⟨_, rfl, rfl⟩, ht⟩) hS.2.2 rsD_coder_14
set_option maxHeartbeats 4000000 in
set_option maxRecDepth 100000 in
theorem rsM_isl (l : Launch) (A : Nat → Prop) (a v n : Nat) : Met l rsY_isl (Jvm.Cond.code rsY_isl rsB_isl 1 (some .boolean) :: rxG) (rs_rm 0) (va_Pc [.ref a] (rs_T A a v n)) (rs_Q (fun w => w = some (.int 1))) 0 0 A := by
  refine Met.ofW (cc := rsB_isl) (maxL := 1) (ret := (some .boolean)) (by decide) rfl ?_
  intro p e s m args below meth c s₁ B hml hv
  obtain ⟨rfl, hT⟩ := hv
  have hx := B.exec
  have hb := B.bytes
  have hr := B.returns
  have hts0 := atoms_spec (ws := Jvm.Cond.code rsY_isl rsB_isl 1 (some .boolean) :: rxG) B.pre
  have hts : ∀ w ∈ rxG, w.before _ s = true := fun w h => hts0 w (List.mem_cons_of_mem _ h)
  have hown : s.vm.findClass "java/lang/String" = some m.cls := findClass_of_methodNamed B.named
  have hlocks := B.notSynchronized
  have hS : va_S A s.heap s.heap [] := va_S.rf
  have hl := lv_entry ([.ref a]) (n := 1) (Nat.le_of_ble_eq_true rfl)
  rw [lg_entry_eq]
  generalize (lg_sl ([.ref a]) ++ List.replicate (1 - (lg_sl ([.ref a])).length) Slot.unset).toArray = ls at hl ⊢
  have hl : lv_has ls 1 [(0, .ref a)] := hl
  obtain ⟨t1, t2, t3, t4, t5, t6, t7⟩ := id hT
  refine va_gets hx hb t6 hS hown (hts _ rsW_cs) (fun _ h => h) rsD_isl_0 ?_
  refine lv_if_eq hx hb rsD_isl_3 (tgt := 17) rfl (fun h => absurd h (by decide)) (fun _ => ?_)
  refine lv_aload_n hx hb rsD_isl_6 rfl (lv_at hl 0 rfl) ?_
  refine vk_getf hx hb t2 hS hown (hts _ rsW_co) (fun _ h => h) rsD_isl_7 ?_
  refine lv_if_ne hx hb rsD_isl_10 (tgt := 17) rfl (fun h => absurd rfl h) (fun _ => ?_)
  refine lv_iconst hx hb (v := 1) rsD_isl_13 (by decide) ?_
  refine lv_goto hx hb rsD_isl_14 (tgt := 18) rfl ?_
  exact W.zret hx hb hr (by decide) (fun t ht hW => ⟨⟨_, rfl, rfl⟩, ht⟩) hS.2.2 rsD_isl_18
set_option maxHeartbeats 4000000 in
set_option maxRecDepth 100000 in
theorem rsM_len (l : Launch) (A : Nat → Prop) (a v n : Nat) : Met l rsY_len (Jvm.Cond.code rsY_len rsB_len 1 (some .int) :: rxG) (rs_rm 1) (va_Pc [.ref a] (rs_T A a v n)) (rs_Q (fun w => w = some (.int (Int32.ofNat n)))) 0 0 A := by
  refine Met.ofW (cc := rsB_len) (maxL := 1) (ret := (some .int)) (by decide) rfl ?_
  intro p e s m args below meth c s₁ B hml hv
  obtain ⟨rfl, hT⟩ := hv
  have hx := B.exec
  have hb := B.bytes
  have hr := B.returns
  have hts0 := atoms_spec (ws := Jvm.Cond.code rsY_len rsB_len 1 (some .int) :: rxG) B.pre
  have hts : ∀ w ∈ rxG, w.before _ s = true := fun w h => hts0 w (List.mem_cons_of_mem _ h)
  have hown : s.vm.findClass "java/lang/String" = some m.cls := findClass_of_methodNamed B.named
  have hlocks := B.notSynchronized
  have hS : va_S A s.heap s.heap [] := va_S.rf
  have hl := lv_entry ([.ref a]) (n := 1) (Nat.le_of_ble_eq_true rfl)
  rw [lg_entry_eq]
  generalize (lg_sl ([.ref a]) ++ List.replicate (1 - (lg_sl ([.ref a])).length) Slot.unset).toArray = ls at hl ⊢
  have hl : lv_has ls 1 [(0, .ref a)] := hl
  obtain ⟨t1, t2, t3, ⟨f, t4⟩, t5, t6, t7⟩ := id hT
  refine lv_aload_n hx hb rsD_len_0 rfl (lv_at hl 0 rfl) ?_
  refine vk_getf hx hb t3 hS hown (hts _ rsW_va) (fun _ h => h) rsD_len_1 ?_
  refine va_tlen hx hb t4 hS rfl rsD_len_4 ?_
  refine lv_aload_n hx hb rsD_len_5 rfl (lv_at hl 0 rfl) ?_
  have hrecv : ∃ cell : Cell, s.heap[a]? = some cell ∧ cell.vm.isStatics = false ∧ s.vm.findClass "java/lang/String" = some cell.cls := by
    obtain ⟨cell, g1, g2, g3, -⟩ := t1
    exact ⟨cell, g1, g2, g3⟩
  refine rs_go (va_runV (As := []) (b := a) (rest := [.int (Int32.ofNat n)]) (nL := 1) ⟨hx, hb, hml, hown, hts⟩ (rsM_coder l A a v n) ⟨rs_B hts rsK_coder rsW_iS (by decide) (by decide +kernel) rsW_mco (Nat.le_of_ble_eq_true rfl) (Nat.le_of_ble_eq_true rfl) (by decide), hts _ rsW_in_coder, hts _ rsW_se_coder⟩ ⟨rs_blind, hrecv, fun U hU hW => ⟨rfl, hT.to hW.alike hU⟩⟩ rfl rfl hl.1 rfl (lv_room (Nat.le_of_ble_eq_true rfl)) rsD_len_6 ⟨Nat.zero_le _, Nat.zero_le _⟩) hS fun w locs1 hw hS => ?_
  subst hw
  refine lv_ishr (x := Int32.ofNat n) (y := 0) hx hb rsD_len_9 ?_
  refine W.eq (g2 := F0 m 10 ls [.int (Int32.ofNat n)]) ?_ ?_
  · rw [show Int32.ofNat n >>> ((0 : Int32) &&& 31) = Int32.ofNat n from sc_shr0 (by omega)]
  · exact W.iret hx hb hr (fun t ht hW => ⟨⟨_, rfl, rfl⟩, ht⟩) hS.2.2 rsD_len_10
set_option maxHeartbeats 4000000 in
set_option maxRecDepth 100000 in
theorem rsM_pci (l : Launch) (A : Nat → Prop) (i n : Int32) (q : Nat) (h0 : ¬ i < 0) (h1 : i < n) : Met l rsY_pci (Jvm.Cond.code rsY_pci rsB_pci 3 (some .int) :: rxG) (rs_rm 0) (va_Pc [.int i, .int n, .ref q] (fun _ => True)) (rs_Q (fun w => w = some (.int i))) 0 0 A := by
  refine Met.ofW (cc := rsB_pci) (maxL := 3) (ret := (some .int)) (by decide) rfl ?_
  intro p e s m args below meth c s₁ B hml hv
  obtain ⟨rfl, hT⟩ := hv
  have hx := B.exec
  have hb := B.bytes
  have hr := B.returns
  have hts0 := atoms_spec (ws := Jvm.Cond.code rsY_pci rsB_pci 3 (some .int) :: rxG) B.pre
  have hts : ∀ w ∈ rxG, w.before _ s = true := fun w h => hts0 w (List.mem_cons_of_mem _ h)
  have hown : s.vm.findClass "jdk/internal/util/Preconditions" = some m.cls := findClass_of_methodNamed B.named
  have hlocks := B.notSynchronized
  have hS : va_S A s.heap s.heap [] := va_S.rf
  have hl := lv_entry ([.int i, .int n, .ref q]) (n := 3) (Nat.le_of_ble_eq_true rfl)
  rw [lg_entry_eq]
  generalize (lg_sl ([.int i, .int n, .ref q]) ++ List.replicate (3 - (lg_sl ([.int i, .int n, .ref q])).length) Slot.unset).toArray = ls at hl ⊢
  have hl : lv_has ls 3 [(0, .int i), (1, .int n), (2, .ref q)] := hl
  refine lv_iload_n hx hb rsD_pci_0 rfl (lv_at hl 0 rfl) ?_
  refine lv_if_lt hx hb rsD_pci_1 (tgt := 9) rfl (fun h => absurd h h0) (fun _ => ?_)
  refine lv_iload_n hx hb rsD_pci_4 rfl (lv_at hl 0 rfl) ?_
  refine lv_iload_n hx hb rsD_pci_5 rfl (lv_at hl 1 rfl) ?_
  refine lv_icmp_lt hx hb rsD_pci_6 (tgt := 16) rfl (fun _ => ?_) (fun h => absurd h1 h)
  refine lv_iload_n hx hb rsD_pci_16 rfl (lv_at hl 0 rfl) ?_
  exact W.iret hx hb hr (fun t ht hW => ⟨⟨_, rfl, rfl⟩, ht⟩) hS.2.2 rsD_pci_17
set_option maxHeartbeats 4000000 in
set_option maxRecDepth 100000 in
theorem rsM_pciN (l : Launch) (A : Nat → Prop) (i n : Int32) (h0 : ¬ i < 0) (h1 : i < n) : Met l rsY_pci (Jvm.Cond.code rsY_pci rsB_pci 3 (some .int) :: rxG) (rs_rm 0) (va_Pc [.int i, .int n, .null] (fun _ => True)) (rs_Q (fun w => w = some (.int i))) 0 0 A := by
  refine Met.ofW (cc := rsB_pci) (maxL := 3) (ret := (some .int)) (by decide) rfl ?_
  intro p e s m args below meth c s₁ B hml hv
  obtain ⟨rfl, hT⟩ := hv
  have hx := B.exec
  have hb := B.bytes
  have hr := B.returns
  have hts0 := atoms_spec (ws := Jvm.Cond.code rsY_pci rsB_pci 3 (some .int) :: rxG) B.pre
  have hts : ∀ w ∈ rxG, w.before _ s = true := fun w h => hts0 w (List.mem_cons_of_mem _ h)
  have hown : s.vm.findClass "jdk/internal/util/Preconditions" = some m.cls := findClass_of_methodNamed B.named
  have hlocks := B.notSynchronized
  have hS : va_S A s.heap s.heap [] := va_S.rf
  have hl := lv_entry ([.int i, .int n, .null]) (n := 3) (Nat.le_of_ble_eq_true rfl)
  rw [lg_entry_eq]
  generalize (lg_sl ([.int i, .int n, .null]) ++ List.replicate (3 - (lg_sl ([.int i, .int n, .null])).length) Slot.unset).toArray = ls at hl ⊢
  have hl : lv_has ls 3 [(0, .int i), (1, .int n), (2, .null)] := hl
  refine lv_iload_n hx hb rsD_pci_0 rfl (lv_at hl 0 rfl) ?_
  refine lv_if_lt hx hb rsD_pci_1 (tgt := 9) rfl (fun h => absurd h h0) (fun _ => ?_)
  refine lv_iload_n hx hb rsD_pci_4 rfl (lv_at hl 0 rfl) ?_
  refine lv_iload_n hx hb rsD_pci_5 rfl (lv_at hl 1 rfl) ?_
  refine lv_icmp_lt hx hb rsD_pci_6 (tgt := 16) rfl (fun _ => ?_) (fun h => absurd h1 h)
  refine lv_iload_n hx hb rsD_pci_16 rfl (lv_at hl 0 rfl) ?_
  exact W.iret hx hb hr (fun t ht hW => ⟨⟨_, rfl, rfl⟩, ht⟩) hS.2.2 rsD_pci_17
set_option maxHeartbeats 4000000 in
set_option maxRecDepth 100000 in
theorem rsM_ci (l : Launch) (A : Nat → Prop) (a v n : Nat) (i k : Int32) (h0 : ¬ i < 0) (h1 : i < k) : Met l rsY_ci (Jvm.Cond.code rsY_ci rsB_ci 2 none :: rxG) (rs_rm 1) (va_Pc [.int i, .int k] (rs_T A a v n)) (rs_Q (fun w => w = none)) 0 0 A := by
  refine Met.ofW (cc := rsB_ci) (maxL := 2) (ret := none) (by decide) rfl ?_
  intro p e s m args below meth c s₁ B hml hv
  obtain ⟨rfl, hT⟩ := hv
  have hx := B.exec
  have hb := B.bytes
  have hr := B.returns
  have hts0 := atoms_spec (ws := Jvm.Cond.code rsY_ci rsB_ci 2 none :: rxG) B.pre
  have hts : ∀ w ∈ rxG, w.before _ s = true := fun w h => hts0 w (List.mem_cons_of_mem _ h)
  have hown : s.vm.findClass "java/lang/String" = some m.cls := findClass_of_methodNamed B.named
  have hlocks := B.notSynchronized
  have hS : va_S A s.heap s.heap [] := va_S.rf
  have hl := lv_entry ([.int i, .int k]) (n := 2) (Nat.le_of_ble_eq_true rfl)
  rw [lg_entry_eq]
  generalize (lg_sl ([.int i, .int k]) ++ List.replicate (2 - (lg_sl ([.int i, .int k])).length) Slot.unset).toArray = ls at hl ⊢
  have hl : lv_has ls 2 [(0, .int i), (1, .int k)] := hl
  obtain ⟨t1, t2, t3, t4, t5, t6, t7⟩ := id hT
  rcases t7 with t7 | ⟨q, t7⟩
  · refine lv_iload_n hx hb rsD_ci_0 rfl (lv_at hl 0 rfl) ?_
    refine lv_iload_n hx hb rsD_ci_1 rfl (lv_at hl 1 rfl) ?_
    refine va_gets hx hb t7 hS hown (hts _ rsW_fo) (fun _ h => h) rsD_ci_2 ?_
    refine rs_go (va_runS (As := [.int i, .int k, .null]) (rest := []) (nL := 2) ⟨hx, hb, hml, hown, hts⟩ (rsM_pciN l A i k h0 h1) ⟨rs_B (n := 3) hts rsK_pci rsW_iP (by decide) (by decide +kernel) rsW_mpc (Nat.le_of_ble_eq_true rfl) (Nat.le_of_ble_eq_true rfl) (by decide), hts _ rsW_st_pci⟩ ⟨rs_blindT, fun U hU hW => ⟨rfl, trivial⟩⟩ rfl rfl hl.1 rfl (lv_room (Nat.le_of_ble_eq_true rfl)) rsD_ci_5 ⟨Nat.zero_le _, Nat.zero_le _⟩) hS fun w locs1 hw hS => ?_
    subst hw
    refine lv_pop hx hb (va := .int i) rsD_ci_8 rfl ?_
    exact W.vret hx hb hr (fun t ht hW => ⟨⟨_, rfl, rfl⟩, ht⟩) hS.2.2 rsD_ci_9
  · refine lv_iload_n hx hb rsD_ci_0 rfl (lv_at hl 0 rfl) ?_
    refine lv_iload_n hx hb rsD_ci_1 rfl (lv_at hl 1 rfl) ?_
    refine va_gets hx hb t7 hS hown (hts _ rsW_fo) (fun _ h => h) rsD_ci_2 ?_
    refine rs_go (va_runS (As := [.int i, .int k, .ref q]) (rest := []) (nL := 2) ⟨hx, hb, hml, hown, hts⟩ (rsM_pci l A i k q h0 h1) ⟨rs_B (n := 3) hts rsK_pci rsW_iP (by decide) (by decide +kernel) rsW_mpc (Nat.le_of_ble_eq_true rfl) (Nat.le_of_ble_eq_true rfl) (by decide), hts _ rsW_st_pci⟩ ⟨rs_blindT, fun U hU hW => ⟨rfl, trivial⟩⟩ rfl rfl hl.1 rfl (lv_room (Nat.le_of_ble_eq_true rfl)) rsD_ci_5 ⟨Nat.zero_le _, Nat.zero_le _⟩) hS fun w locs1 hw hS => ?_
    subst hw
    refine lv_pop hx hb (va := .int i) rsD_ci_8 rfl ?_
    exact W.vret hx hb hr (fun t ht hW => ⟨⟨_, rfl, rfl⟩, ht⟩) hS.2.2 rsD_ci_9
set_option maxHeartbeats 4000000 in
set_option maxRecDepth 100000 in
theorem rsM_lch (l : Launch) (A : Nat → Prop) (a v n : Nat) (i : Int32) (hi0 : 0 ≤ i.toInt) (hi1 : i.toInt < (n : Int)) : Met l rsY_lch (Jvm.Cond.code rsY_lch rsB_lch 2 (some .char) :: rxG) (rs_rm 2) (va_Pc [.ref v, .int i] (rs_T A a v n)) (rs_Q (fun w => ∃ b : Int32, w = some (.int (b &&& 255)))) 0 0 A := by
  refine Met.ofW (cc := rsB_lch) (maxL := 2) (ret := (some .char)) (by decide) rfl ?_
  intro p e s m args below meth c s₁ B hml hv
  obtain ⟨rfl, hT⟩ := hv
  have hx := B.exec
  have hb := B.bytes
  have hr := B.returns
  have hts0 := atoms_spec (ws := Jvm.Cond.code rsY_lch rsB_lch 2 (some .char) :: rxG) B.pre
  have hts : ∀ w ∈ rxG, w.before _ s = true := fun w h => hts0 w (List.mem_cons_of_mem _ h)
  have hown : s.vm.findClass "java/lang/StringLatin1" = some m.cls := findClass_of_methodNamed B.named
  have hlocks := B.notSynchronized
  have hS : va_S A s.heap s.heap [] := va_S.rf
  have hl := lv_entry ([.ref v, .int i]) (n := 2) (Nat.le_of_ble_eq_true rfl)
  rw [lg_entry_eq]
  generalize (lg_sl ([.ref v, .int i]) ++ List.replicate (2 - (lg_sl ([.ref v, .int i])).length) Slot.unset).toArray = ls at hl ⊢
  have hl : lv_has ls 2 [(0, .ref v), (1, .int i)] := hl
  obtain ⟨t1, t2, t3, ⟨f, t4⟩, t5, t6, t7⟩ := id hT
  have hn : (Int32.ofNat n).toInt = (n : Int) := nI_toInt (by omega)
  have h0 : ¬ i < 0 := fun h => by
    rw [Int32.lt_iff_toInt_lt] at h
    have z : (0 : Int32).toInt = 0 := by decide
    omega
  have h1 : i < Int32.ofNat n := by
    rw [Int32.lt_iff_toInt_lt]
    omega
  refine lv_iload_n hx hb rsD_lch_0 rfl (lv_at hl 1 rfl) ?_
  refine lv_aload_n hx hb rsD_lch_1 rfl (lv_at hl 0 rfl) ?_
  refine va_tlen hx hb t4 hS rfl rsD_lch_2 ?_
  refine rs_go (va_runS (As := [.int i, .int (Int32.ofNat n)]) (rest := []) (nL := 2) ⟨hx, hb, hml, hown, hts⟩ (rsM_ci l A a v n i (Int32.ofNat n) h0 h1) ⟨rs_B (n := 2) hts rsK_ci rsW_iS (by decide) (by decide +kernel) rsW_mci (Nat.le_of_ble_eq_true rfl) (Nat.le_of_ble_eq_true rfl) (by decide), hts _ rsW_st_ci⟩ ⟨rs_blind, fun U hU hW => ⟨rfl, hT.to hW.alike hU⟩⟩ rfl rfl hl.1 rfl (lv_room (Nat.le_of_ble_eq_true rfl)) rsD_lch_3 ⟨Nat.zero_le _, Nat.zero_le _⟩) hS fun w locs1 hw hS => ?_
  subst hw
  refine lv_aload_n hx hb rsD_lch_6 rfl (lv_at hl 0 rfl) ?_
  refine lv_iload_n hx hb rsD_lch_7 rfl (lv_at hl 1 rfl) ?_
  refine va_tb hx hb t4 hS (i := i) (v := .int (f i.toNatClampNeg)) (vp_in_iff.mpr ⟨hi0, hi1⟩) rfl rsD_lch_8 ?_
  refine lv_sipush hx hb (v := 255) rsD_lch_9 (by decide) ?_
  refine lv_iand hx hb rsD_lch_12 ?_
  refine lv_i2c hx hb (v := f i.toNatClampNeg &&& 255) rsD_lch_13 (sc_c2 _) ?_
  exact W.zret hx hb hr (sc_nar _) (fun t ht hW => ⟨⟨_, rfl, _, rfl⟩, ht⟩) hS.2.2 rsD_lch_14
set_option maxHeartbeats 4000000 in
set_option maxRecDepth 100000 in
theorem rsM_chr (l : Launch) (A : Nat → Prop) (a v n : Nat) (i : Int32) (hi0 : 0 ≤ i.toInt) (hi1 : i.toInt < (n : Int)) : Met l rsY_chr (Jvm.Cond.code rsY_chr rsB_chr 2 (some .char) :: rxG) (rs_rm 3) (va_Pc [.ref a, .int i] (rs_T A a v n)) (rs_Q (fun w => ∃ b : Int32, w = some (.int (b &&& 255)))) 0 0 A := by
  refine Met.ofW (cc := rsB_chr) (maxL := 2) (ret := (some .char)) (by decide) rfl ?_
  intro p e s m args below meth c s₁ B hml hv
  obtain ⟨rfl, hT⟩ := hv
  have hx := B.exec
  have hb := B.bytes
  have hr := B.returns
  have hts0 := atoms_spec (ws := Jvm.Cond.code rsY_chr rsB_chr 2 (some .char) :: rxG) B.pre
  have hts : ∀ w ∈ rxG, w.before _ s = true := fun w h => hts0 w (List.mem_cons_of_mem _ h)
  have hown : s.vm.findClass "java/lang/String" = some m.cls := findClass_of_methodNamed B.named
  have hlocks := B.notSynchronized
  have hS : va_S A s.heap s.heap [] := va_S.rf
  have hl := lv_entry ([.ref a, .int i]) (n := 2) (Nat.le_of_ble_eq_true rfl)
  rw [lg_entry_eq]
  generalize (lg_sl ([.ref a, .int i]) ++ List.replicate (2 - (lg_sl ([.ref a, .int i])).length) Slot.unset).toArray = ls at hl ⊢
  have hl : lv_has ls 2 [(0, .ref a), (1, .int i)] := hl
  obtain ⟨t1, t2, t3, ⟨f, t4⟩, t5, t6, t7⟩ := id hT
  have hrecv : ∃ cell : Cell, s.heap[a]? = some cell ∧ cell.vm.isStatics = false ∧ s.vm.findClass "java/lang/String" = some cell.cls := by
    obtain ⟨cell, g1, g2, g3, -⟩ := t1
    exact ⟨cell, g1, g2, g3⟩
  refine lv_aload_n hx hb rsD_chr_0 rfl (lv_at hl 0 rfl) ?_
  refine rs_go (va_runV (As := []) (b := a) (rest := []) (nL := 2) ⟨hx, hb, hml, hown, hts⟩ (rsM_isl l A a v n) ⟨rs_B hts rsK_isl rsW_iS (by decide) (by decide +kernel) rsW_mis (Nat.le_of_ble_eq_true rfl) (Nat.le_of_ble_eq_true rfl) (by decide), hts _ rsW_in_isl, hts _ rsW_se_isl⟩ ⟨rs_blind, hrecv, fun U hU hW => ⟨rfl, hT.to hW.alike hU⟩⟩ rfl rfl hl.1 rfl (lv_room (Nat.le_of_ble_eq_true rfl)) rsD_chr_1 ⟨Nat.zero_le _, Nat.zero_le _⟩) hS fun w locs1 hw hS => ?_
  subst hw
  refine lv_if_eq (x := 1) hx hb rsD_chr_4 (tgt := 16) rfl (fun h => absurd h (by decide)) (fun _ => ?_)
  refine lv_aload_n hx hb rsD_chr_7 rfl (lv_at hl 0 rfl) ?_
  refine vk_getf hx hb t3 hS hown (hts _ rsW_va) (fun _ h => h) rsD_chr_8 ?_
  refine lv_iload_n hx hb rsD_chr_11 rfl (lv_at hl 1 rfl) ?_
  refine rs_go (va_runS (As := [.ref v, .int i]) (rest := []) (nL := 2) ⟨hx, hb, hml, hown, hts⟩ (rsM_lch l A a v n i hi0 hi1) ⟨rs_B (n := 2) hts rsK_lch rsW_iL (by decide) (by decide +kernel) rsW_mlc (Nat.le_of_ble_eq_true rfl) (Nat.le_of_ble_eq_true rfl) (by decide), hts _ rsW_st_lch⟩ ⟨rs_blind, fun U hU hW => ⟨rfl, hT.to hW.alike hU⟩⟩ rfl rfl hl.1 rfl (lv_room (Nat.le_of_ble_eq_true rfl)) rsD_chr_12 ⟨Nat.zero_le _, Nat.zero_le _⟩) hS fun w locs1 hw hS => ?_
  obtain ⟨b, rfl⟩ := hw
  exact W.zret hx hb hr (sc_nar _) (fun t ht hW => ⟨⟨_, rfl, _, rfl⟩, ht⟩) hS.2.2 rsD_chr_15
