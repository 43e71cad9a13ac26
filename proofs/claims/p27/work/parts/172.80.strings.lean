section
noncomputable def rsY_coder : MethodName := ⟨"java/lang/String", "coder", "()B"⟩
noncomputable abbrev rsB_coder : ByteArray := prog_17_method_152_code
theorem rsK_coder : Jvm.Cond.code rsY_coder rsB_coder 1 (some .byte) ∈ rxG := (rx_in (rx_at4 (n := 37) rfl) rfl)
noncomputable def rsY_isl : MethodName := ⟨"java/lang/String", "isLatin1", "()Z"⟩
noncomputable abbrev rsB_isl : ByteArray := prog_17_method_154_code
theorem rsK_isl : Jvm.Cond.code rsY_isl rsB_isl 1 (some .boolean) ∈ rxG := (rx_in (rx_at4 (n := 47) rfl) rfl)
noncomputable def rsY_len : MethodName := ⟨"java/lang/String", "length", "()I"⟩
noncomputable abbrev rsB_len : ByteArray := prog_17_method_54_code
theorem rsK_len : Jvm.Cond.code rsY_len rsB_len 1 (some .int) ∈ rxG := (rx_in (rx_at4 (n := 33) rfl) rfl)
noncomputable def rsY_pci : MethodName := ⟨"jdk/internal/util/Preconditions", "checkIndex", "(IILjava/util/function/BiFunction;)I"⟩
noncomputable abbrev rsB_pci : ByteArray := prog_22_method_11_code
theorem rsK_pci : Jvm.Cond.code rsY_pci rsB_pci 3 (some .int) ∈ rxG := (rx_in (rx_at4 (n := 58) rfl) rfl)
noncomputable def rsY_ci : MethodName := ⟨"java/lang/String", "checkIndex", "(II)V"⟩
noncomputable abbrev rsB_ci : ByteArray := prog_17_method_155_code
theorem rsK_ci : Jvm.Cond.code rsY_ci rsB_ci 2 none ∈ rxG := (rx_in (rx_at4 (n := 53) rfl) rfl)
noncomputable def rsY_lch : MethodName := ⟨"java/lang/StringLatin1", "charAt", "([BI)C"⟩
noncomputable abbrev rsB_lch : ByteArray := prog_18_method_2_code
theorem rsK_lch : Jvm.Cond.code rsY_lch rsB_lch 2 (some .char) ∈ rxG := (rx_in (rx_at4 (n := 50) rfl) rfl)
noncomputable def rsY_chr : MethodName := ⟨"java/lang/String", "charAt", "(I)C"⟩
noncomputable abbrev rsB_chr : ByteArray := prog_17_method_56_code
theorem rsK_chr : Jvm.Cond.code rsY_chr rsB_chr 2 (some .char) ∈ rxG := (rx_in (rx_at4 (n := 43) rfl) rfl)
theorem rsW_iS : Jvm.Cond.initialized "java/lang/String" ∈ rxG := (rx_in (rx_at1 (n := 16) rfl) rfl)
theorem rsW_iL : Jvm.Cond.initialized "java/lang/StringLatin1" ∈ rxG := (rx_in (rx_at1 (n := 17) rfl) rfl)
theorem rsW_iP : Jvm.Cond.initialized "jdk/internal/util/Preconditions" ∈ rxG := (rx_in (rx_at1 (n := 18) rfl) rfl)
theorem rsW_cs : Jvm.Cond.fieldLink "java/lang/String" 38 "java/lang/String" "COMPACT_STRINGS" "Z" ∈ rxG := (rx_in (rx_at4 (n := 38) rfl) rfl)
theorem rsW_co : Jvm.Cond.fieldLink "java/lang/String" 15 "java/lang/String" "coder" "B" ∈ rxG := (rx_in (rx_at10 (n := 116) rfl) rfl)
theorem rsW_va : Jvm.Cond.fieldLink "java/lang/String" 9 "java/lang/String" "value" "[B" ∈ rxG := (rx_in (rx_at10 (n := 115) rfl) rfl)
theorem rsW_fo : Jvm.Cond.fieldLink "java/lang/String" 1053 "jdk/internal/util/Preconditions" "SIOOBE_FORMATTER" "Ljava/util/function/BiFunction;" ∈ rxG := (rx_in (rx_at4 (n := 54) rfl) rfl)
theorem rsW_mco : Jvm.Cond.methodLink "java/lang/String" 335 rsY_coder ∈ rxG := (rx_in (rx_at4 (n := 34) rfl) rfl)
theorem rsW_mis : Jvm.Cond.methodLink "java/lang/String" 492 rsY_isl ∈ rxG := (rx_in (rx_at4 (n := 44) rfl) rfl)
theorem rsW_mlc : Jvm.Cond.methodLink "java/lang/String" 495 rsY_lch ∈ rxG := (rx_in (rx_at4 (n := 48) rfl) rfl)
theorem rsW_mci : Jvm.Cond.methodLink "java/lang/StringLatin1" 9 rsY_ci ∈ rxG := (rx_in (rx_at4 (n := 51) rfl) rfl)
theorem rsW_mpc : Jvm.Cond.methodLink "java/lang/String" 1059 rsY_pci ∈ rxG := (rx_in (rx_at4 (n := 56) rfl) rfl)
theorem rsW_mle : Jvm.Cond.methodLink "DeadUnderstudies$Reader" 238 rsY_len ∈ rxG := (rx_in (rx_at4 (n := 30) rfl) rfl)
theorem rsW_mch : Jvm.Cond.methodLink "DeadUnderstudies$Reader" 242 rsY_chr ∈ rxG := (rx_in (rx_at4 (n := 40) rfl) rfl)
theorem rsW_in_coder : Jvm.Cond.instanceMethod rsY_coder ∈ rxG := (rx_in (rx_at4 (n := 35) rfl) rfl)
theorem rsW_se_coder : Jvm.Cond.selects "java/lang/String" rsY_coder rsY_coder ∈ rxG := (rx_in (rx_at4 (n := 36) rfl) rfl)
theorem rsW_in_isl : Jvm.Cond.instanceMethod rsY_isl ∈ rxG := (rx_in (rx_at4 (n := 45) rfl) rfl)
theorem rsW_se_isl : Jvm.Cond.selects "java/lang/String" rsY_isl rsY_isl ∈ rxG := (rx_in (rx_at4 (n := 46) rfl) rfl)
theorem rsW_in_len : Jvm.Cond.instanceMethod rsY_len ∈ rxG := (rx_in (rx_at4 (n := 31) rfl) rfl)
theorem rsW_se_len : Jvm.Cond.selects "java/lang/String" rsY_len rsY_len ∈ rxG := (rx_in (rx_at4 (n := 32) rfl) rfl)
theorem rsW_in_chr : Jvm.Cond.instanceMethod rsY_chr ∈ rxG := (rx_in (rx_at4 (n := 41) rfl) rfl)
theorem rsW_se_chr : Jvm.Cond.selects "java/lang/String" rsY_chr rsY_chr ∈ rxG := (rx_in (rx_at4 (n := 42) rfl) rfl)
theorem rsW_st_pci : Jvm.Cond.static rsY_pci ∈ rxG := (rx_in (rx_at4 (n := 57) rfl) rfl)
theorem rsW_st_ci : Jvm.Cond.static rsY_ci ∈ rxG := (rx_in (rx_at4 (n := 52) rfl) rfl)
theorem rsW_st_lch : Jvm.Cond.static rsY_lch ∈ rxG := (rx_in (rx_at4 (n := 49) rfl) rfl)
theorem rsD_coder_0 : decode rsB_coder 0 = .ok (.getstatic 38, 3) := by decide +kernel
theorem rsD_coder_3 : decode rsB_coder 3 = .ok (.ifCond .eq 10, 3) := by decide +kernel
theorem rsD_coder_6 : decode rsB_coder 6 = .ok (.aload_n 0, 1) := by decide +kernel
theorem rsD_coder_7 : decode rsB_coder 7 = .ok (.getfield 15, 3) := by decide +kernel
theorem rsD_coder_10 : decode rsB_coder 10 = .ok (.goto 4, 3) := by decide +kernel
theorem rsD_coder_14 : decode rsB_coder 14 = .ok (.ireturn, 1) := by decide +kernel
theorem rsD_isl_0 : decode rsB_isl 0 = .ok (.getstatic 38, 3) := by decide +kernel
theorem rsD_isl_3 : decode rsB_isl 3 = .ok (.ifCond .eq 14, 3) := by decide +kernel
theorem rsD_isl_6 : decode rsB_isl 6 = .ok (.aload_n 0, 1) := by decide +kernel
theorem rsD_isl_7 : decode rsB_isl 7 = .ok (.getfield 15, 3) := by decide +kernel
theorem rsD_isl_10 : decode rsB_isl 10 = .ok (.ifCond .ne 7, 3) := by decide +kernel
theorem rsD_isl_13 : decode rsB_isl 13 = .ok (.iconst 1, 1) := by decide +kernel
theorem rsD_isl_14 : decode rsB_isl 14 = .ok (.goto 4, 3) := by decide +kernel
theorem rsD_isl_18 : decode rsB_isl 18 = .ok (.ireturn, 1) := by decide +kernel
theorem rsD_len_0 : decode rsB_len 0 = .ok (.aload_n 0, 1) := by decide +kernel
theorem rsD_len_1 : decode rsB_len 1 = .ok (.getfield 9, 3) := by decide +kernel
theorem rsD_len_4 : decode rsB_len 4 = .ok (.arraylength, 1) := by decide +kernel
theorem rsD_len_5 : decode rsB_len 5 = .ok (.aload_n 0, 1) := by decide +kernel
theorem rsD_len_6 : decode rsB_len 6 = .ok (.invokevirtual 335, 3) := by decide +kernel
theorem rsD_len_9 : decode rsB_len 9 = .ok (.ishr, 1) := by decide +kernel
theorem rsD_len_10 : decode rsB_len 10 = .ok (.ireturn, 1) := by decide +kernel
theorem rsD_pci_0 : decode rsB_pci 0 = .ok (.iload_n 0, 1) := by decide +kernel
theorem rsD_pci_1 : decode rsB_pci 1 = .ok (.ifCond .lt 8, 3) := by decide +kernel
theorem rsD_pci_4 : decode rsB_pci 4 = .ok (.iload_n 0, 1) := by decide +kernel
theorem rsD_pci_5 : decode rsB_pci 5 = .ok (.iload_n 1, 1) := by decide +kernel
theorem rsD_pci_6 : decode rsB_pci 6 = .ok (.if_icmp .lt 10, 3) := by decide +kernel
theorem rsD_pci_16 : decode rsB_pci 16 = .ok (.iload_n 0, 1) := by decide +kernel
theorem rsD_pci_17 : decode rsB_pci 17 = .ok (.ireturn, 1) := by decide +kernel
theorem rsD_ci_0 : decode rsB_ci 0 = .ok (.iload_n 0, 1) := by decide +kernel
theorem rsD_ci_1 : decode rsB_ci 1 = .ok (.iload_n 1, 1) := by decide +kernel
theorem rsD_ci_2 : decode rsB_ci 2 = .ok (.getstatic 1053, 3) := by decide +kernel
theorem rsD_ci_5 : decode rsB_ci 5 = .ok (.invokestatic 1059, 3) := by decide +kernel
theorem rsD_ci_8 : decode rsB_ci 8 = .ok (.pop, 1) := by decide +kernel
theorem rsD_ci_9 : decode rsB_ci 9 = .ok (.return_, 1) := by decide +kernel
theorem rsD_lch_0 : decode rsB_lch 0 = .ok (.iload_n 1, 1) := by decide +kernel
theorem rsD_lch_1 : decode rsB_lch 1 = .ok (.aload_n 0, 1) := by decide +kernel
theorem rsD_lch_2 : decode rsB_lch 2 = .ok (.arraylength, 1) := by decide +kernel
theorem rsD_lch_3 : decode rsB_lch 3 = .ok (.invokestatic 9, 3) := by decide +kernel
theorem rsD_lch_6 : decode rsB_lch 6 = .ok (.aload_n 0, 1) := by decide +kernel
theorem rsD_lch_7 : decode rsB_lch 7 = .ok (.iload_n 1, 1) := by decide +kernel
theorem rsD_lch_8 : decode rsB_lch 8 = .ok (.baload, 1) := by decide +kernel
theorem rsD_lch_9 : decode rsB_lch 9 = .ok (.sipush 255, 3) := by decide +kernel
theorem rsD_lch_12 : decode rsB_lch 12 = .ok (.iand, 1) := by decide +kernel
theorem rsD_lch_13 : decode rsB_lch 13 = .ok (.i2c, 1) := by decide +kernel
theorem rsD_lch_14 : decode rsB_lch 14 = .ok (.ireturn, 1) := by decide +kernel
theorem rsD_chr_0 : decode rsB_chr 0 = .ok (.aload_n 0, 1) := by decide +kernel
theorem rsD_chr_1 : decode rsB_chr 1 = .ok (.invokevirtual 492, 3) := by decide +kernel
theorem rsD_chr_4 : decode rsB_chr 4 = .ok (.ifCond .eq 12, 3) := by decide +kernel
theorem rsD_chr_7 : decode rsB_chr 7 = .ok (.aload_n 0, 1) := by decide +kernel
theorem rsD_chr_8 : decode rsB_chr 8 = .ok (.getfield 9, 3) := by decide +kernel
theorem rsD_chr_11 : decode rsB_chr 11 = .ok (.iload_n 1, 1) := by decide +kernel
theorem rsD_chr_12 : decode rsB_chr 12 = .ok (.invokestatic 495, 3) := by decide +kernel
theorem rsD_chr_15 : decode rsB_chr 15 = .ok (.ireturn, 1) := by decide +kernel
noncomputable def rs_rm (d : Nat) : Room := { frames := d, cells := 0, slots := 0, locals := d * 40 }
noncomputable def rs_Q (post : Option Value → Prop) : Array Value → State → Outcome → State → Prop := fun _ st oc t => (∃ v : Option Value, oc = .returned v ∧ post v) ∧ t.heap = st.heap
noncomputable def rs_T (A : Nat → Prop) (a v n : Nat) (U : State) : Prop := va_O "java/lang/String" a A U U.heap ∧ va_OF "java/lang/String" "coder" "B" (.int 0) a A U U.heap ∧ va_OF "java/lang/String" "value" "[B" (.ref v) a A U U.heap ∧ (∃ f : Nat → Int32, va_T .byte v n (fun j => .int (f j)) A U U.heap) ∧ n < 1000 ∧ va_Z "java/lang/String" "COMPACT_STRINGS" "Z" (.int 1) A U U.heap ∧ va_Zq "jdk/internal/util/Preconditions" "SIOOBE_FORMATTER" "Ljava/util/function/BiFunction;" A U U.heap
theorem rs_T.to {A : Nat → Prop} {a v n : Nat} {u U : State} (h : rs_T A a v n u) (hvm : u.vm.Alike U.vm) (hh : U.heap = u.heap) : rs_T A a v n U := by
  obtain ⟨h1, h2, h3, ⟨f, h4⟩, h5, h6, h7⟩ := h
  unfold rs_T
  rw [hh]
  exact ⟨h1.moved hvm, h2.moved hvm, h3.moved hvm, ⟨f, h4.moved hvm⟩, h5, h6.moved hvm, h7.moved hvm⟩
theorem rs_T.kept {A : Nat → Prop} {a v n : Nat} {u U : State} (h : rs_T A a v n u) (hvm : u.vm.Alike U.vm) (hq : ∀ a : Nat, a < u.heap.size → ¬ A a → U.heap[a]? = u.heap[a]?) : rs_T A a v n U := by
  obtain ⟨h1, h2, h3, ⟨f, h4⟩, h5, h6, h7⟩ := h
  exact ⟨(h1.moved hvm).kept hq, (h2.moved hvm).kept hq, (h3.moved hvm).kept hq, ⟨f, (h4.moved hvm).kept hq⟩, h5, (h6.moved hvm).kept hq, (h7.moved hvm).kept hq⟩
theorem rs_blind {A : Nat → Prop} {a v n : Nat} {as : List Value} : FrameBlind (va_Pc as (rs_T A a v n)) := fun _ U g mk h => ⟨h.1, h.2.to (U := U.calling g mk _) (Vm.Alike.refl U.vm) rfl⟩
theorem rs_blindT {as : List Value} : FrameBlind (va_Pc as (fun _ => True)) := fun _ _ _ _ h => ⟨h.1, trivial⟩
section RSA
variable {p : Program} {l : Launch} {e : Env} {R : Room} {s : State} {m : MethodId} {args : Array Value} {below : List Frame} {meth : Method} {c : Code} {H H0 : Heap} {locs : List Loc} {cells slots : Nat} {Q : State → Prop} {A : Nat → Prop}
theorem rs_B {own : String} {index d n maxL : Nat} {y : MethodName} {bytes : ByteArray} {ret : Option FieldType} (hts : ∀ w ∈ rxG, w.before args s = true) (m2 : Cond.code y bytes maxL ret ∈ rxG) (m4 : Cond.initialized y.cls ∈ rxG) (m5 : y.cls ≠ "java/lang/invoke/MethodHandle" ∧ y.cls ≠ "java/lang/invoke/VarHandle") (hdesc : (parseMethodDescriptor y.desc).map (fun d => d.parameters.length) = some n) (mlk : Cond.methodLink own index y ∈ rxG) (hd : d + 1 ≤ R.frames) (hdl : (d + 1) * 40 ≤ R.locals) (hmx : maxL ≤ 20) :
    CallB R s args own index y bytes maxL ret (Cond.code y bytes maxL ret :: rxG) (rs_rm d) 0 0 n := by
  have hGI : GoodIn rxG (Cond.code y bytes maxL ret :: rxG) := fun w hw => by
    rcases List.mem_cons.mp hw with h | h
    · subst h; exact ⟨m2, good_of_word (rxGgood _ m2)⟩
    · exact ⟨h, good_of_word (rxGgood _ h)⟩
  refine ⟨rfl, rfl, hd, ?_, pay_in hts hGI, List.mem_cons_self, hts _ m2, hts _ m4, m5, fun sig h => ?_, hts _ mlk⟩
  · show 8 + (maxL + 11) + d * 40 ≤ R.locals
    omega
  · rw [h] at hdesc
    exact (Option.some.inj hdesc).symm
theorem rs_go {post : Option Value → Prop} {a : Array Value} {pc : Nat} {ls : Array Slot} {st0 rest : List Value} (hr : va_Run p l e R s m args below meth c H locs cells slots 0 0 (F0 m pc ls st0) rest (rs_Q post a) A) (hS : va_S A H0 H locs) (kk : ∀ (v : Option Value) (locs1 : List Loc), post v → va_S A H0 H locs1 → W p l e R s m args below meth c H locs1 cells slots Q (F0 m (pc + 3) ls (v.toList ++ rest))) : W p l e R s m args below meth c H locs cells slots Q (F0 m pc ls st0) := by
  refine rx_call hr hS (fun st oc t h => ⟨by rw [h.2]; exact Nat.le_refl _, fun q _ _ => by rw [h.2]⟩) fun v st t H1 locs1 ht hst hvm hpost hS1 => ?_
  obtain ⟨⟨v_p, hv, hp⟩, hh⟩ := hpost
  cases hv
  have e : H1 = H := ht.symm.trans (hh.trans hst)
  subst e
  exact kk v locs1 hp hS1
end RSA

set_option maxHeartbeats 4000000 in
set_option maxRecDepth 100000 in
theorem rsM_coder (l : Launch) (A : Nat → Prop) (a v n : Nat) : Met l rsY_coder (Jvm.Cond.code rsY_coder rsB_coder 1 (some .byte) :: rxG) (rs_rm 0) (va_Pc [.ref a] (rs_T A a v n)) (rs_Q (fun w => w = some (.int 0))) 0 0 A := by
  refine Met.ofW (cc := rsB_coder) (maxL := 1) (ret := (some .byte)) (by decide) rfl ?_
  intro p e s m args below meth c s₁ B hml hv
  obtain ⟨rfl, hT⟩ := hv
  have hx := B.exec
  have hb := B.bytes
  have hr := B.returns
  have hts0 := atoms_spec (ws := Jvm.Cond.code rsY_coder rsB_coder 1 (some .byte) :: rxG) B.pre
  have hts : ∀ w ∈ rxG, w.before _ s = true := fun w h => hts0 w (List.mem_cons_of_mem _ h)
  have hown : s.vm.findClass "java/lang/String" = some m.cls := findClass_of_methodNamed B.named
  have hlocks := B.notSynchronized
  have hS : va_S A s.heap s.heap [] := va_S.rf
  have hl := lv_entry ([.ref a]) (n := 1) (Nat.le_of_ble_eq_true rfl)
  rw [lg_entry_eq]
  generalize (lg_sl ([.ref a]) ++ List.replicate (1 - (lg_sl ([.ref a])).length) Slot.unset).toArray = ls at hl ⊢
  have hl : lv_has ls 1 [(0, .ref a)] := hl
  obtain ⟨t1, t2, t3, t4, t5, t6, t7⟩ := id hT
  refine va_gets hx hb t6 hS hown (hts _ rsW_cs) (fun _ h => h) rsD_coder_0 ?_
  refine lv_if_eq hx hb rsD_coder_3 (tgt := 13) rfl (fun h => absurd h (by decide)) (fun _ => ?_)
  refine lv_aload_n hx hb rsD_coder_6 rfl (lv_at hl 0 rfl) ?_
  refine vk_getf hx hb t2 hS hown (hts _ rsW_co) (fun _ h => h) rsD_coder_7 ?_
  refine lv_goto hx hb rsD_coder_10 (tgt := 14) rfl ?_
  exact W.zret hx hb hr (by decide) (fun t ht hW => ⟨⟨_, rfl, rfl⟩, ht⟩) hS.2.2 rsD_coder_14
set_option maxHeartbeats 4000000 in
set_option maxRecDepth 100000 in
theorem rsM_isl (l : Launch) (A : Nat → Prop) (a v n : Nat) : Met l rsY_isl (Jvm.Cond.code rsY_isl rsB_isl 1 (some .boolean) :: rxG) (rs_rm 0) (va_Pc [.ref a] (rs_T A a v n)) (rs_Q (fun w => w = some (.int 1))) 0 0 A := by
  refine Met.ofW (cc := rsB_isl) (maxL := 1) (ret := (some .boolean)) (by decide) rfl ?_
  intro p e s m args below meth c s₁ B hml hv
  obtain ⟨rfl, hT⟩ := hv
  have hx := B.exec
  have hb := B.bytes
  have hr := B.returns
  have hts0 := atoms_spec (ws := Jvm.Cond.code rsY_isl rsB_isl 1 (some .boolean) :: rxG) B.pre
  have hts : ∀ w ∈ rxG, w.before _ s = true := fun w h => hts0 w (List.mem_cons_of_mem _ h)
  have hown : s.vm.findClass "java/lang/String" = some m.cls := findClass_of_methodNamed B.named
  have hlocks := B.notSynchronized
  have hS : va_S A s.heap s.heap [] := va_S.rf
  have hl := lv_entry ([.ref a]) (n := 1) (Nat.le_of_ble_eq_true rfl)
  rw [lg_entry_eq]
  generalize (lg_sl ([.ref a]) ++ List.replicate (1 - (lg_sl ([.ref a])).length) Slot.unset).toArray = ls at hl ⊢
  have hl : lv_has ls 1 [(0, .ref a)] := hl
  obtain ⟨t1, t2, t3, t4, t5, t6, t7⟩ := id hT
  refine va_gets hx hb t6 hS hown (hts _ rsW_cs) (fun _ h => h) rsD_isl_0 ?_
  refine lv_if_eq hx hb rsD_isl_3 (tgt := 17) rfl (fun h => absurd h (by decide)) (fun _ => ?_)
  refine lv_aload_n hx hb rsD_isl_6 rfl (lv_at hl 0 rfl) ?_
  refine vk_getf hx hb t2 hS hown (hts _ rsW_co) (fun _ h => h) rsD_isl_7 ?_
  refine lv_if_ne hx hb rsD_isl_10 (tgt := 17) rfl (fun h => absurd rfl h) (fun _ => ?_)
  refine lv_iconst hx hb (v := 1) rsD_isl_13 (by decide) ?_
  refine lv_goto hx hb rsD_isl_14 (tgt := 18) rfl ?_
  exact W.zret hx hb hr (by decide) (fun t ht hW => ⟨⟨_, rfl, rfl⟩, ht⟩) hS.2.2 rsD_isl_18
set_option maxHeartbeats 4000000 in
set_option maxRecDepth 100000 in
theorem rsM_len (l : Launch) (A : Nat → Prop) (a v n : Nat) : Met l rsY_len (Jvm.Cond.code rsY_len rsB_len 1 (some .int) :: rxG) (rs_rm 1) (va_Pc [.ref a] (rs_T A a v n)) (rs_Q (fun w => w = some (.int (Int32.ofNat n)))) 0 0 A := by
  refine Met.ofW (cc := rsB_len) (maxL := 1) (ret := (some .int)) (by decide) rfl ?_
  intro p e s m args below meth c s₁ B hml hv
  obtain ⟨rfl, hT⟩ := hv
  have hx := B.exec
  have hb := B.bytes
  have hr := B.returns
  have hts0 := atoms_spec (ws := Jvm.Cond.code rsY_len rsB_len 1 (some .int) :: rxG) B.pre
  have hts : ∀ w ∈ rxG, w.before _ s = true := fun w h => hts0 w (List.mem_cons_of_mem _ h)
  have hown : s.vm.findClass "java/lang/String" = some m.cls := findClass_of_methodNamed B.named
  have hlocks := B.notSynchronized
  have hS : va_S A s.heap s.heap [] := va_S.rf
  have hl := lv_entry ([.ref a]) (n := 1) (Nat.le_of_ble_eq_true rfl)
  rw [lg_entry_eq]
  generalize (lg_sl ([.ref a]) ++ List.replicate (1 - (lg_sl ([.ref a])).length) Slot.unset).toArray = ls at hl ⊢
  have hl : lv_has ls 1 [(0, .ref a)] := hl
  obtain ⟨t1, t2, t3, ⟨f, t4⟩, t5, t6, t7⟩ := id hT
  refine lv_aload_n hx hb rsD_len_0 rfl (lv_at hl 0 rfl) ?_
  refine vk_getf hx hb t3 hS hown (hts _ rsW_va) (fun _ h => h) rsD_len_1 ?_
  refine va_tlen hx hb t4 hS rfl rsD_len_4 ?_
  refine lv_aload_n hx hb rsD_len_5 rfl (lv_at hl 0 rfl) ?_
  have hrecv : ∃ cell : Cell, s.heap[a]? = some cell ∧ cell.vm.isStatics = false ∧ s.vm.findClass "java/lang/String" = some cell.cls := by
    obtain ⟨cell, g1, g2, g3, -⟩ := t1
    exact ⟨cell, g1, g2, g3⟩
  refine rs_go (va_runV (As := []) (b := a) (rest := [.int (Int32.ofNat n)]) (nL := 1) ⟨hx, hb, hml, hown, hts⟩ (rsM_coder l A a v n) ⟨rs_B hts rsK_coder rsW_iS (by decide) (by decide +kernel) rsW_mco (Nat.le_of_ble_eq_true rfl) (Nat.le_of_ble_eq_true rfl) (by decide), hts _ rsW_in_coder, hts _ rsW_se_coder⟩ ⟨rs_blind, hrecv, fun U hU hW => ⟨rfl, hT.to hW.alike hU⟩⟩ rfl rfl hl.1 rfl (lv_room (Nat.le_of_ble_eq_true rfl)) rsD_len_6 ⟨Nat.zero_le _, Nat.zero_le _⟩) hS fun w locs1 hw hS => ?_
  subst hw
  refine lv_ishr (x := Int32.ofNat n) (y := 0) hx hb rsD_len_9 ?_
  refine W.eq (g2 := F0 m 10 ls [.int (Int32.ofNat n)]) ?_ ?_
  · rw [show Int32.ofNat n >>> ((0 : Int32) &&& 31) = Int32.ofNat n from sc_shr0 (by omega)]
  · exact W.iret hx hb hr (fun t ht hW => ⟨⟨_, rfl, rfl⟩, ht⟩) hS.2.2 rsD_len_10
set_option maxHeartbeats 4000000 in
set_option maxRecDepth 100000 in
theorem rsM_pci (l : Launch) (A : Nat → Prop) (i n : Int32) (q : Nat) (h0 : ¬ i < 0) (h1 : i < n) : Met l rsY_pci (Jvm.Cond.code rsY_pci rsB_pci 3 (some .int) :: rxG) (rs_rm 0) (va_Pc [.int i, .int n, .ref q] (fun _ => True)) (rs_Q (fun w => w = some (.int i))) 0 0 A := by
  refine Met.ofW (cc := rsB_pci) (maxL := 3) (ret := (some .int)) (by decide) rfl ?_
  intro p e s m args below meth c s₁ B hml hv
  obtain ⟨rfl, hT⟩ := hv
  have hx := B.exec
  have hb := B.bytes
  have hr := B.returns
  have hts0 := atoms_spec (ws := Jvm.Cond.code rsY_pci rsB_pci 3 (some .int) :: rxG) B.pre
  have hts : ∀ w ∈ rxG, w.before _ s = true := fun w h => hts0 w (List.mem_cons_of_mem _ h)
  have hown : s.vm.findClass "jdk/internal/util/Preconditions" = some m.cls := findClass_of_methodNamed B.named
  have hlocks := B.notSynchronized
  have hS : va_S A s.heap s.heap [] := va_S.rf
  have hl := lv_entry ([.int i, .int n, .ref q]) (n := 3) (Nat.le_of_ble_eq_true rfl)
  rw [lg_entry_eq]
  generalize (lg_sl ([.int i, .int n, .ref q]) ++ List.replicate (3 - (lg_sl ([.int i, .int n, .ref q])).length) Slot.unset).toArray = ls at hl ⊢
  have hl : lv_has ls 3 [(0, .int i), (1, .int n), (2, .ref q)] := hl
  refine lv_iload_n hx hb rsD_pci_0 rfl (lv_at hl 0 rfl) ?_
  refine lv_if_lt hx hb rsD_pci_1 (tgt := 9) rfl (fun h => absurd h h0) (fun _ => ?_)
  refine lv_iload_n hx hb rsD_pci_4 rfl (lv_at hl 0 rfl) ?_
  refine lv_iload_n hx hb rsD_pci_5 rfl (lv_at hl 1 rfl) ?_
  refine lv_icmp_lt hx hb rsD_pci_6 (tgt := 16) rfl (fun _ => ?_) (fun h => absurd h1 h)
  refine lv_iload_n hx hb rsD_pci_16 rfl (lv_at hl 0 rfl) ?_
  exact W.iret hx hb hr (fun t ht hW => ⟨⟨_, rfl, rfl⟩, ht⟩) hS.2.2 rsD_pci_17
set_option maxHeartbeats 4000000 in
set_option maxRecDepth 100000 in
theorem rsM_pciN (l : Launch) (A : Nat → Prop) (i n : Int32) (h0 : ¬ i < 0) (h1 : i < n) : Met l rsY_pci (Jvm.Cond.code rsY_pci rsB_pci 3 (some .int) :: rxG) (rs_rm 0) (va_Pc [.int i, .int n, .null] (fun _ => True)) (rs_Q (fun w => w = some (.int i))) 0 0 A := by
  refine Met.ofW (cc := rsB_pci) (maxL := 3) (ret := (some .int)) (by decide) rfl ?_
  intro p e s m args below meth c s₁ B hml hv
  obtain ⟨rfl, hT⟩ := hv
  have hx := B.exec
  have hb := B.bytes
  have hr := B.returns
  have hts0 := atoms_spec (ws := Jvm.Cond.code rsY_pci rsB_pci 3 (some .int) :: rxG) B.pre
  have hts : ∀ w ∈ rxG, w.before _ s = true := fun w h => hts0 w (List.mem_cons_of_mem _ h)
  have hown : s.vm.findClass "jdk/internal/util/Preconditions" = some m.cls := findClass_of_methodNamed B.named
  have hlocks := B.notSynchronized
  have hS : va_S A s.heap s.heap [] := va_S.rf
  have hl := lv_entry ([.int i, .int n, .null]) (n := 3) (Nat.le_of_ble_eq_true rfl)
  rw [lg_entry_eq]
  generalize (lg_sl ([.int i, .int n, .null]) ++ List.replicate (3 - (lg_sl ([.int i, .int n, .null])).length) Slot.unset).toArray = ls at hl ⊢
  have hl : lv_has ls 3 [(0, .int i), (1, .int n), (2, .null)] := hl
  refine lv_iload_n hx hb rsD_pci_0 rfl (lv_at hl 0 rfl) ?_
  refine lv_if_lt hx hb rsD_pci_1 (tgt := 9) rfl (fun h => absurd h h0) (fun _ => ?_)
  refine lv_iload_n hx hb rsD_pci_4 rfl (lv_at hl 0 rfl) ?_
  refine lv_iload_n hx hb rsD_pci_5 rfl (lv_at hl 1 rfl) ?_
  refine lv_icmp_lt hx hb rsD_pci_6 (tgt := 16) rfl (fun _ => ?_) (fun h => absurd h1 h)
  refine lv_iload_n hx hb rsD_pci_16 rfl (lv_at hl 0 rfl) ?_
  exact W.iret hx hb hr (fun t ht hW => ⟨⟨_, rfl, rfl⟩, ht⟩) hS.2.2 rsD_pci_17
set_option maxHeartbeats 4000000 in
set_option maxRecDepth 100000 in
theorem rsM_ci (l : Launch) (A : Nat → Prop) (a v n : Nat) (i k : Int32) (h0 : ¬ i < 0) (h1 : i < k) : Met l rsY_ci (Jvm.Cond.code rsY_ci rsB_ci 2 none :: rxG) (rs_rm 1) (va_Pc [.int i, .int k] (rs_T A a v n)) (rs_Q (fun w => w = none)) 0 0 A := by
  refine Met.ofW (cc := rsB_ci) (maxL := 2) (ret := none) (by decide) rfl ?_
  intro p e s m args below meth c s₁ B hml hv
  obtain ⟨rfl, hT⟩ := hv
  have hx := B.exec
  have hb := B.bytes
  have hr := B.returns
  have hts0 := atoms_spec (ws := Jvm.Cond.code rsY_ci rsB_ci 2 none :: rxG) B.pre
  have hts : ∀ w ∈ rxG, w.before _ s = true := fun w h => hts0 w (List.mem_cons_of_mem _ h)
  have hown : s.vm.findClass "java/lang/String" = some m.cls := findClass_of_methodNamed B.named
  have hlocks := B.notSynchronized
  have hS : va_S A s.heap s.heap [] := va_S.rf
  have hl := lv_entry ([.int i, .int k]) (n := 2) (Nat.le_of_ble_eq_true rfl)
  rw [lg_entry_eq]
  generalize (lg_sl ([.int i, .int k]) ++ List.replicate (2 - (lg_sl ([.int i, .int k])).length) Slot.unset).toArray = ls at hl ⊢
  have hl : lv_has ls 2 [(0, .int i), (1, .int k)] := hl
  obtain ⟨t1, t2, t3, t4, t5, t6, t7⟩ := id hT
  rcases t7 with t7 | ⟨q, t7⟩
  · refine lv_iload_n hx hb rsD_ci_0 rfl (lv_at hl 0 rfl) ?_
    refine lv_iload_n hx hb rsD_ci_1 rfl (lv_at hl 1 rfl) ?_
    refine va_gets hx hb t7 hS hown (hts _ rsW_fo) (fun _ h => h) rsD_ci_2 ?_
    refine rs_go (va_runS (As := [.int i, .int k, .null]) (rest := []) (nL := 2) ⟨hx, hb, hml, hown, hts⟩ (rsM_pciN l A i k h0 h1) ⟨rs_B (n := 3) hts rsK_pci rsW_iP (by decide) (by decide +kernel) rsW_mpc (Nat.le_of_ble_eq_true rfl) (Nat.le_of_ble_eq_true rfl) (by decide), hts _ rsW_st_pci⟩ ⟨rs_blindT, fun U hU hW => ⟨rfl, trivial⟩⟩ rfl rfl hl.1 rfl (lv_room (Nat.le_of_ble_eq_true rfl)) rsD_ci_5 ⟨Nat.zero_le _, Nat.zero_le _⟩) hS fun w locs1 hw hS => ?_
    subst hw
    refine lv_pop hx hb (va := .int i) rsD_ci_8 rfl ?_
    exact W.vret hx hb hr (fun t ht hW => ⟨⟨_, rfl, rfl⟩, ht⟩) hS.2.2 rsD_ci_9
  · refine lv_iload_n hx hb rsD_ci_0 rfl (lv_at hl 0 rfl) ?_
    refine lv_iload_n hx hb rsD_ci_1 rfl (lv_at hl 1 rfl) ?_
    refine va_gets hx hb t7 hS hown (hts _ rsW_fo) (fun _ h => h) rsD_ci_2 ?_
    refine rs_go (va_runS (As := [.int i, .int k, .ref q]) (rest := []) (nL := 2) ⟨hx, hb, hml, hown, hts⟩ (rsM_pci l A i k q h0 h1) ⟨rs_B (n := 3) hts rsK_pci rsW_iP (by decide) (by decide +kernel) rsW_mpc (Nat.le_of_ble_eq_true rfl) (Nat.le_of_ble_eq_true rfl) (by decide), hts _ rsW_st_pci⟩ ⟨rs_blindT, fun U hU hW => ⟨rfl, trivial⟩⟩ rfl rfl hl.1 rfl (lv_room (Nat.le_of_ble_eq_true rfl)) rsD_ci_5 ⟨Nat.zero_le _, Nat.zero_le _⟩) hS fun w locs1 hw hS => ?_
    subst hw
    refine lv_pop hx hb (va := .int i) rsD_ci_8 rfl ?_
    exact W.vret hx hb hr (fun t ht hW => ⟨⟨_, rfl, rfl⟩, ht⟩) hS.2.2 rsD_ci_9
set_option maxHeartbeats 4000000 in
set_option maxRecDepth 100000 in
theorem rsM_lch (l : Launch) (A : Nat → Prop) (a v n : Nat) (i : Int32) (hi0 : 0 ≤ i.toInt) (hi1 : i.toInt < (n : Int)) : Met l rsY_lch (Jvm.Cond.code rsY_lch rsB_lch 2 (some .char) :: rxG) (rs_rm 2) (va_Pc [.ref v, .int i] (rs_T A a v n)) (rs_Q (fun w => ∃ b : Int32, w = some (.int (b &&& 255)))) 0 0 A := by
  refine Met.ofW (cc := rsB_lch) (maxL := 2) (ret := (some .char)) (by decide) rfl ?_
  intro p e s m args below meth c s₁ B hml hv
  obtain ⟨rfl, hT⟩ := hv
  have hx := B.exec
  have hb := B.bytes
  have hr := B.returns
  have hts0 := atoms_spec (ws := Jvm.Cond.code rsY_lch rsB_lch 2 (some .char) :: rxG) B.pre
  have hts : ∀ w ∈ rxG, w.before _ s = true := fun w h => hts0 w (List.mem_cons_of_mem _ h)
  have hown : s.vm.findClass "java/lang/StringLatin1" = some m.cls := findClass_of_methodNamed B.named
  have hlocks := B.notSynchronized
  have hS : va_S A s.heap s.heap [] := va_S.rf
  have hl := lv_entry ([.ref v, .int i]) (n := 2) (Nat.le_of_ble_eq_true rfl)
  rw [lg_entry_eq]
  generalize (lg_sl ([.ref v, .int i]) ++ List.replicate (2 - (lg_sl ([.ref v, .int i])).length) Slot.unset).toArray = ls at hl ⊢
  have hl : lv_has ls 2 [(0, .ref v), (1, .int i)] := hl
  obtain ⟨t1, t2, t3, ⟨f, t4⟩, t5, t6, t7⟩ := id hT
  have hn : (Int32.ofNat n).toInt = (n : Int) := nI_toInt (by omega)
  have h0 : ¬ i < 0 := fun h => by
    rw [Int32.lt_iff_toInt_lt] at h
    have z : (0 : Int32).toInt = 0 := by decide
    omega
  have h1 : i < Int32.ofNat n := by
    rw [Int32.lt_iff_toInt_lt]
    omega
  refine lv_iload_n hx hb rsD_lch_0 rfl (lv_at hl 1 rfl) ?_
  refine lv_aload_n hx hb rsD_lch_1 rfl (lv_at hl 0 rfl) ?_
  refine va_tlen hx hb t4 hS rfl rsD_lch_2 ?_
  refine rs_go (va_runS (As := [.int i, .int (Int32.ofNat n)]) (rest := []) (nL := 2) ⟨hx, hb, hml, hown, hts⟩ (rsM_ci l A a v n i (Int32.ofNat n) h0 h1) ⟨rs_B (n := 2) hts rsK_ci rsW_iS (by decide) (by decide +kernel) rsW_mci (Nat.le_of_ble_eq_true rfl) (Nat.le_of_ble_eq_true rfl) (by decide), hts _ rsW_st_ci⟩ ⟨rs_blind, fun U hU hW => ⟨rfl, hT.to hW.alike hU⟩⟩ rfl rfl hl.1 rfl (lv_room (Nat.le_of_ble_eq_true rfl)) rsD_lch_3 ⟨Nat.zero_le _, Nat.zero_le _⟩) hS fun w locs1 hw hS => ?_
  subst hw
  refine lv_aload_n hx hb rsD_lch_6 rfl (lv_at hl 0 rfl) ?_
  refine lv_iload_n hx hb rsD_lch_7 rfl (lv_at hl 1 rfl) ?_
  refine va_tb hx hb t4 hS (i := i) (v := .int (f i.toNatClampNeg)) (vp_in_iff.mpr ⟨hi0, hi1⟩) rfl rsD_lch_8 ?_
  refine lv_sipush hx hb (v := 255) rsD_lch_9 (by decide) ?_
  refine lv_iand hx hb rsD_lch_12 ?_
  refine lv_i2c hx hb (v := f i.toNatClampNeg &&& 255) rsD_lch_13 (sc_c2 _) ?_
  exact W.zret hx hb hr (sc_nar _) (fun t ht hW => ⟨⟨_, rfl, _, rfl⟩, ht⟩) hS.2.2 rsD_lch_14
set_option maxHeartbeats 4000000 in
set_option maxRecDepth 100000 in
theorem rsM_chr (l : Launch) (A : Nat → Prop) (a v n : Nat) (i : Int32) (hi0 : 0 ≤ i.toInt) (hi1 : i.toInt < (n : Int)) : Met l rsY_chr (Jvm.Cond.code rsY_chr rsB_chr 2 (some .char) :: rxG) (rs_rm 3) (va_Pc [.ref a, .int i] (rs_T A a v n)) (rs_Q (fun w => ∃ b : Int32, w = some (.int (b &&& 255)))) 0 0 A := by
  refine Met.ofW (cc := rsB_chr) (maxL := 2) (ret := (some .char)) (by decide) rfl ?_
  intro p e s m args below meth c s₁ B hml hv
  obtain ⟨rfl, hT⟩ := hv
  have hx := B.exec
  have hb := B.bytes
  have hr := B.returns
  have hts0 := atoms_spec (ws := Jvm.Cond.code rsY_chr rsB_chr 2 (some .char) :: rxG) B.pre
  have hts : ∀ w ∈ rxG, w.before _ s = true := fun w h => hts0 w (List.mem_cons_of_mem _ h)
  have hown : s.vm.findClass "java/lang/String" = some m.cls := findClass_of_methodNamed B.named
  have hlocks := B.notSynchronized
  have hS : va_S A s.heap s.heap [] := va_S.rf
  have hl := lv_entry ([.ref a, .int i]) (n := 2) (Nat.le_of_ble_eq_true rfl)
  rw [lg_entry_eq]
  generalize (lg_sl ([.ref a, .int i]) ++ List.replicate (2 - (lg_sl ([.ref a, .int i])).length) Slot.unset).toArray = ls at hl ⊢
  have hl : lv_has ls 2 [(0, .ref a), (1, .int i)] := hl
  obtain ⟨t1, t2, t3, ⟨f, t4⟩, t5, t6, t7⟩ := id hT
  have hrecv : ∃ cell : Cell, s.heap[a]? = some cell ∧ cell.vm.isStatics = false ∧ s.vm.findClass "java/lang/String" = some cell.cls := by
    obtain ⟨cell, g1, g2, g3, -⟩ := t1
    exact ⟨cell, g1, g2, g3⟩
  refine lv_aload_n hx hb rsD_chr_0 rfl (lv_at hl 0 rfl) ?_
  refine rs_go (va_runV (As := []) (b := a) (rest := []) (nL := 2) ⟨hx, hb, hml, hown, hts⟩ (rsM_isl l A a v n) ⟨rs_B hts rsK_isl rsW_iS (by decide) (by decide +kernel) rsW_mis (Nat.le_of_ble_eq_true rfl) (Nat.le_of_ble_eq_true rfl) (by decide), hts _ rsW_in_isl, hts _ rsW_se_isl⟩ ⟨rs_blind, hrecv, fun U hU hW => ⟨rfl, hT.to hW.alike hU⟩⟩ rfl rfl hl.1 rfl (lv_room (Nat.le_of_ble_eq_true rfl)) rsD_chr_1 ⟨Nat.zero_le _, Nat.zero_le _⟩) hS fun w locs1 hw hS => ?_
  subst hw
  refine lv_if_eq (x := 1) hx hb rsD_chr_4 (tgt := 16) rfl (fun h => absurd h (by decide)) (fun _ => ?_)
  refine lv_aload_n hx hb rsD_chr_7 rfl (lv_at hl 0 rfl) ?_
  refine vk_getf hx hb t3 hS hown (hts _ rsW_va) (fun _ h => h) rsD_chr_8 ?_
  refine lv_iload_n hx hb rsD_chr_11 rfl (lv_at hl 1 rfl) ?_
  refine rs_go (va_runS (As := [.ref v, .int i]) (rest := []) (nL := 2) ⟨hx, hb, hml, hown, hts⟩ (rsM_lch l A a v n i hi0 hi1) ⟨rs_B (n := 2) hts rsK_lch rsW_iL (by decide) (by decide +kernel) rsW_mlc (Nat.le_of_ble_eq_true rfl) (Nat.le_of_ble_eq_true rfl) (by decide), hts _ rsW_st_lch⟩ ⟨rs_blind, fun U hU hW => ⟨rfl, hT.to hW.alike hU⟩⟩ rfl rfl hl.1 rfl (lv_room (Nat.le_of_ble_eq_true rfl)) rsD_chr_12 ⟨Nat.zero_le _, Nat.zero_le _⟩) hS fun w locs1 hw hS => ?_
  obtain ⟨b, rfl⟩ := hw
  exact W.zret hx hb hr (sc_nar _) (fun t ht hW => ⟨⟨_, rfl, _, rfl⟩, ht⟩) hS.2.2 rsD_chr_15
end
section
noncomputable def rxLns : List Int := [3, 3, 2, 4, 4, 3, 4, 2, 5, 4, 2, 2, 6, 4, 4, 3, 2, 4, 6, 3, 5, 5, 7, 4, 4]
noncomputable def rxLn (k : Int) : Int := (rxLns[(k - 522).toNat]?).getD 0
theorem rxLn_box {k : Int} : 0 ≤ rxLn k ∧ rxLn k ≤ 20 := by
  unfold rxLn
  cases h : rxLns[(k - 522).toNat]? with
  | none => exact ⟨Int.le_refl _, by decide⟩
  | some x =>
    have hm := List.mem_of_getElem? h
    have key : rxLns.all (fun x => decide (0 ≤ x) && decide (x ≤ 20)) = true := by decide +kernel
    have g := List.all_eq_true.mp key x hm
    rw [Bool.and_eq_true, decide_eq_true_eq, decide_eq_true_eq] at g
    exact g
theorem rxTxB {v : Int} (h : rxDmf 21 v = true) : 522 ≤ v ∧ v < 547 := by
  unfold rxDmf bx_dmf at h
  rw [show Nat.ble 2000000 21 = false from rfl] at h
  obtain ⟨a, ha, he⟩ := List.any_eq_true.mp h
  have key : (rxDs 21).all (fun a => decide (522 ≤ a) && decide (a < 547)) = true := by decide +kernel
  have g := List.all_eq_true.mp key a ha
  rw [Bool.and_eq_true, decide_eq_true_eq, decide_eq_true_eq] at g
  rw [decide_eq_true_eq] at he
  omega
section RXTX
variable {PX : State → Prop} {Dg : va_G} {A : Nat → Prop} {ad xa av : Nat → Nat} {l : Launch} {X : (Nat → Int → Int) → Prop}
variable {p : Program} {e : Env} {R : Room} {s : State} {m : MethodId} {args : Array Value} {below : List Frame} {meth : Method} {c : Code} {Q : State → Prop} {H0 : Heap}
noncomputable def rx_obT (X : (Nat → Int → Int) → Prop) (Sin : Nat → Int → Int) (ms : List (Nat × Nat)) (inv : Nat → bx_SP) (mea : Nat → (Nat → Int → Int) → (Nat → Int) → Nat) (i i_p : Nat) (z : rx_Z) (k : rx_E) (idx : Option rx_E) (lo hi : Int) : Prop :=
  ∀ (S : Nat → Int → Int) (r : Nat → Int), inv i S r → X S → bx_Inv rxL S → bx_same rxL (bx_mdl ms) Sin S → rx_sat z.1 r → rx_facts z.2.1 r →
    (522 ≤ rx_ev r k ∧ rx_ev r k < 547) ∧ (∀ a : rx_E, idx = some a → 0 ≤ rx_ev r a ∧ rx_ev r a < rxLn (rx_ev r k)) ∧ ∀ r_p : Nat → Int, rx_same z.1.length r r_p → r_p 0 = 0 → (idx = none → r_p z.1.length = rxLn (rx_ev r k)) → (lo ≤ r_p z.1.length ∧ r_p z.1.length ≤ hi) → inv i_p S r_p ∧ mea i_p S r_p < mea i S r
noncomputable def rx_hstr (PX : State → Prop) (A : Nat → Prop) (ad av : Nat → Nat) : Prop := ∀ U : State, PX U → ∀ k : Int, 522 ≤ k → k < 547 → rs_T A (ad k.toNat) (av k.toNat) (rxLn k).toNat U
theorem rx_stepT {tab : List bx_HE} {inv : Nat → bx_SP} {mea : Nat → (Nat → Int → Int) → (Nat → Int) → Nat} {Sin : Nat → Int → Int} {ms : List (Nat × Nat)} {i i_p : Nat} {z : rx_Z} {q_p : bx_HE} {lo hi : Int} {t : List rx_V} {S : Nat → Int → Int} {r : Nat → Int} {H : Heap} {locs locs1 : List Loc} {ls : Array Slot} {x : Int32}
    (hXS : X S) (hsin : bx_same rxL (bx_mdl ms) Sin S) (hR : rx_R (Dg, rxL, S, bx_mdH ms) vwCl A s xa rxM59.2.2.1 H0 z r ad H locs ls) (ht2 : ∀ v ∈ t, rx_sc z.1.length z.2.2.1.length v) (hS1 : va_S A H0 H locs1)
    (K : ∀ (i_p : Nat) (q_p : bx_HE) (S_p : Nat → Int → Int) (r_p : Nat → Int) (H_p : Heap) (locs_p : List Loc) (ls_p : Array Slot), tab[i_p]? = some q_p → inv i_p S_p r_p → mea i_p S_p r_p < mea i S r → X S_p → bx_same rxL (bx_mdl ms) Sin S_p → rx_R (Dg, rxL, S_p, bx_mdH ms) vwCl A s xa rxM59.2.2.1 H0 q_p.1 r_p ad H_p locs_p ls_p →
      W p l e R s m args below meth c H_p locs_p q_p.1.2.2.2.1 q_p.1.2.2.2.2.1 Q (F0 m (rx_zpc q_p.1) ls_p ((rx_zst q_p.1).map (rx_iv r_p ad xa))))
    (htab : tab[i_p]? = some q_p) (hq_p : rx_nxI (z.1 ++ [(lo, hi)]) z 3 (.inr (0, (z.1.length, 0)) :: t) = q_p.1) (hb : lo ≤ x.toInt ∧ x.toInt ≤ hi) (b2 : inv i_p S (rx_up r z.1.length x.toInt)) (b3 : mea i_p S (rx_up r z.1.length x.toInt) < mea i S r) :
    W p l e R s m args below meth c H locs1 z.2.2.2.1 z.2.2.2.2.1 Q (F0 m (rx_zpc z + 3) ls (.int x :: t.map (rx_iv r ad xa))) := by
  have hR1 : rx_R (Dg, rxL, S, bx_mdH ms) vwCl A s xa rxM59.2.2.1 H0 z r ad H locs1 ls := by
    obtain ⟨h1, h2, h3, ⟨S1, hW, -, h5⟩, h6⟩ := hR
    exact ⟨h1, h2, h3, ⟨S1, hW, hS1, h5⟩, h6⟩
  have hsat := rx_sat_up (lo := lo) (hi := hi) hR1.1 hb.1 hb.2
  have hlen : z.1.length ≤ (z.1 ++ [(lo, hi)]).length := by simp
  have hN := rx_R_nxI (d := 3) (st := .inr (0, (z.1.length, 0)) :: t) hR1 hlen rx_up_same hsat (fun v hv => by
    rcases List.mem_cons.mp hv with h | h
    · subst h
      show z.1.length < (z.1 ++ [(lo, hi)]).length
      simp
    · exact rx_sc.mono (ht2 v h) hlen trivial)
  rw [hq_p] at hN
  have k := K i_p q_p S _ H locs1 ls htab b2 b3 hXS hsin hN
  rw [← hq_p] at k
  have ev : rx_iv (rx_up r z.1.length x.toInt) ad xa (.inr (0, (z.1.length, 0))) = Value.int x := by
    show Value.int (Int32.ofInt (rx_ev _ (z.1.length, 0))) = _
    unfold rx_ev
    rw [rx_up_self, Int.add_zero, Int32.ofInt_toInt]
  have et := rx_st_ext (ad := ad) (ad_p := ad) (xa := xa) ht2 (rx_up_same (r := r) (n := z.1.length) (z := x.toInt)) rx_sameA.rf
  rw [← ev, ← et]
  obtain ⟨zI, zF, zh, zc, zs, zp, zl, zt⟩ := z
  exact k
theorem rx_stepL {tab : List bx_HE} {inv : Nat → bx_SP} {mea : Nat → (Nat → Int → Int) → (Nat → Int) → Nat} {Sin : Nat → Int → Int} {ms : List (Nat × Nat)} {i i_p : Nat} {z : rx_Z} {os : List bx_HO} {es : List (rx_End × List (Nat × Int × Int))} {q_p : bx_HE} {k : rx_E} {lo hi : Int} {t : List rx_V}
    (hstr : rx_hstr PX A ad av) (hPX : rx_PXOK rxNW A PX) (hF : rx_Fr rxG rxNW rxAO PX p s m args meth c rxM59) (hA : ∀ q, H0.size ≤ q → A q) (hH0 : H0 = s.heap) (hd : 4 ≤ R.frames) (hdl : 4 * 40 ≤ R.locals)
    (hdg : decode rxM59.2.1 (rx_zpc z) = .ok (.invokevirtual 238, 3)) (hne : bx_noE z.2.2.1 = true) (hst : rx_zst z = .inr (3, k) :: t) (hct : rx_cats t ≤ 8) (hz : z.2.2.2.1 = 0 ∧ z.2.2.2.2.1 = 0)
    (htab : tab[i_p]? = some q_p) (hq_p : rx_nxI (z.1 ++ [(lo, hi)]) z 3 (.inr (0, (z.1.length, 0)) :: t) = q_p.1) (hlh : lo ≤ 0 ∧ 20 ≤ hi) (hob : rx_obT X Sin ms inv mea i i_p z k none lo hi) :
    bx_Step p l e R s m args below meth c Q Dg rxL X vwCl A xa H0 ad rxM59 tab inv mea Sin ms i (z, os, es) := by
  intro S r H locs ls hinv hXS hsin hR K
  obtain ⟨Sq, ⟨ws0, tys0, hInv0, hrest0⟩, hS, ⟨-, hch0⟩, -⟩ := id hR.2.2.2.1
  have eSq : Sq = S := bx_noE_eq hne (hch0 rfl)
  rw [eSq] at hInv0
  have hInv0 : bx_Inv rxL S := hInv0
  obtain ⟨⟨o1, o2⟩, -, o3⟩ := hob S r hinv hXS hInv0 hsin hR.1 hR.2.1
  obtain ⟨hx, hb, hr, hml, hown, hlk, hts, hnw, hao, hpx, hini⟩ := id hF
  have hT := hstr s hpx _ o1 o2
  have hbx := rxLn_box (k := rx_ev r k)
  have hn : (Int32.ofNat (rxLn (rx_ev r k)).toNat).toInt = rxLn (rx_ev r k) := by
    have := nI_toInt (n := (rxLn (rx_ev r k)).toNat) (by omega)
    have e : nI (rxLn (rx_ev r k)).toNat = Int32.ofNat (rxLn (rx_ev r k)).toNat := rfl
    rw [e] at this
    omega
  have hsc := rx_stsc hR
  rw [hst] at hsc
  have ht2 : ∀ v ∈ t, rx_sc z.1.length z.2.2.1.length v := fun v hv => hsc v (List.mem_cons_of_mem _ hv)
  have hrecv : ∃ cell : Cell, H[ad (rx_ev r k).toNat]? = some cell ∧ cell.vm.isStatics = false ∧ s.vm.findClass "java/lang/String" = some cell.cls := by
    have hS2 := hS
    rw [hH0] at hS2
    obtain ⟨cell, g1, g2, g3, -⟩ := hT.1.kept hS2.2.1
    exact ⟨cell, g1, g2, g3⟩
  rw [hst]
  show W p l e R s m args below meth c H locs z.2.2.2.1 z.2.2.2.2.1 Q (F0 m (rx_zpc z) ls (.ref (ad (rx_ev r k).toNat) :: t.map (rx_iv r ad xa)))
  refine rs_go (va_runV (As := []) (b := ad (rx_ev r k).toNat) (rest := t.map (rx_iv r ad xa)) (nL := rxM59.2.2.1) (own := rxM59.2.2.2.2.1.cls) ⟨hx, hb, hml, hown, hts⟩ (rsM_len l A (ad (rx_ev r k).toNat) (av (rx_ev r k).toNat) (rxLn (rx_ev r k)).toNat) ⟨rs_B hts rsK_len rsW_iS (by decide) (by decide +kernel) rsW_mle (by omega) (by omega) (by decide), hts _ rsW_in_len, hts _ rsW_se_len⟩ ⟨rs_blind, hrecv, fun U hU hW => ⟨rfl, hstr U (rx_pre_at hPX hF hA hH0 hR U hU hW).2.2.1 _ o1 o2⟩⟩ rfl rfl (rx_lvh hR).1 rfl (lv_room (by rw [rx_cats_sum]; exact hct)) hdg ⟨by omega, by omega⟩) hS fun w locs1 hw hS1 => ?_
  subst hw
  obtain ⟨b2, b3⟩ := o3 (rx_up r z.1.length (Int32.ofNat (rxLn (rx_ev r k)).toNat).toInt) rx_up_same ((rx_up_same 0 (rx_pos hR.1)).trans hR.1.1) (fun _ => rx_up_self.trans hn) (by rw [rx_up_self, hn]; omega)
  exact rx_stepT hXS hsin hR ht2 hS1 K htab hq_p (by rw [hn]; omega) b2 b3
theorem rx_stepC_ {tab : List bx_HE} {inv : Nat → bx_SP} {mea : Nat → (Nat → Int → Int) → (Nat → Int) → Nat} {Sin : Nat → Int → Int} {ms : List (Nat × Nat)} {i i_p : Nat} {z : rx_Z} {os : List bx_HO} {es : List (rx_End × List (Nat × Int × Int))} {q_p : bx_HE} {k ix : rx_E} {lo hi : Int} {t : List rx_V}
    (hstr : rx_hstr PX A ad av) (hPX : rx_PXOK rxNW A PX) (hF : rx_Fr rxG rxNW rxAO PX p s m args meth c rxM59) (hA : ∀ q, H0.size ≤ q → A q) (hH0 : H0 = s.heap) (hd : 4 ≤ R.frames) (hdl : 4 * 40 ≤ R.locals)
    (hdg : decode rxM59.2.1 (rx_zpc z) = .ok (.invokevirtual 242, 3)) (hne : bx_noE z.2.2.1 = true) (hst : rx_zst z = .inr (0, ix) :: .inr (3, k) :: t) (hct : rx_cats t ≤ 8) (hz : z.2.2.2.1 = 0 ∧ z.2.2.2.2.1 = 0)
    (htab : tab[i_p]? = some q_p) (hq_p : rx_nxI (z.1 ++ [(lo, hi)]) z 3 (.inr (0, (z.1.length, 0)) :: t) = q_p.1) (hlh : lo ≤ 0 ∧ 255 ≤ hi) (hob : rx_obT X Sin ms inv mea i i_p z k (some ix) lo hi) :
    bx_Step p l e R s m args below meth c Q Dg rxL X vwCl A xa H0 ad rxM59 tab inv mea Sin ms i (z, os, es) := by
  intro S r H locs ls hinv hXS hsin hR K
  obtain ⟨Sq, ⟨ws0, tys0, hInv0, hrest0⟩, hS, ⟨-, hch0⟩, -⟩ := id hR.2.2.2.1
  have eSq : Sq = S := bx_noE_eq hne (hch0 rfl)
  rw [eSq] at hInv0
  have hInv0 : bx_Inv rxL S := hInv0
  obtain ⟨⟨o1, o2⟩, o4, o3⟩ := hob S r hinv hXS hInv0 hsin hR.1 hR.2.1
  obtain ⟨q0, q1⟩ := o4 ix rfl
  obtain ⟨hx, hb, hr, hml, hown, hlk, hts, hnw, hao, hpx, hini⟩ := id hF
  have hT := hstr s hpx _ o1 o2
  have hbx := rxLn_box (k := rx_ev r k)
  have hi1 := bx_toI (a := rx_ev r ix) (by omega)
  have hsc := rx_stsc hR
  rw [hst] at hsc
  have ht2 : ∀ v ∈ t, rx_sc z.1.length z.2.2.1.length v := fun v hv => hsc v (List.mem_cons_of_mem _ (List.mem_cons_of_mem _ hv))
  have hrecv : ∃ cell : Cell, H[ad (rx_ev r k).toNat]? = some cell ∧ cell.vm.isStatics = false ∧ s.vm.findClass "java/lang/String" = some cell.cls := by
    have hS2 := hS
    rw [hH0] at hS2
    obtain ⟨cell, g1, g2, g3, -⟩ := hT.1.kept hS2.2.1
    exact ⟨cell, g1, g2, g3⟩
  rw [hst]
  show W p l e R s m args below meth c H locs z.2.2.2.1 z.2.2.2.2.1 Q (F0 m (rx_zpc z) ls (.int (Int32.ofInt (rx_ev r ix)) :: .ref (ad (rx_ev r k).toNat) :: t.map (rx_iv r ad xa)))
  refine rs_go (va_runV (As := [.int (Int32.ofInt (rx_ev r ix))]) (b := ad (rx_ev r k).toNat) (rest := t.map (rx_iv r ad xa)) (nL := rxM59.2.2.1) (own := rxM59.2.2.2.2.1.cls) ⟨hx, hb, hml, hown, hts⟩ (rsM_chr l A (ad (rx_ev r k).toNat) (av (rx_ev r k).toNat) (rxLn (rx_ev r k)).toNat (Int32.ofInt (rx_ev r ix)) (by rw [hi1]; omega) (by rw [hi1]; omega)) ⟨rs_B (n := 1) hts rsK_chr rsW_iS (by decide) (by decide +kernel) rsW_mch (by omega) (by omega) (by decide), hts _ rsW_in_chr, hts _ rsW_se_chr⟩ ⟨rs_blind, hrecv, fun U hU hW => ⟨rfl, hstr U (rx_pre_at hPX hF hA hH0 hR U hU hW).2.2.1 _ o1 o2⟩⟩ rfl rfl (rx_lvh hR).1 rfl (lv_room (by rw [rx_cats_sum]; exact hct)) hdg ⟨by omega, by omega⟩) hS fun w locs1 hw hS1 => ?_
  obtain ⟨b, rfl⟩ := hw
  obtain ⟨j, hj, e2⟩ := pk_andE b (m := 255) 8 (by decide)
  have hx2 : 0 ≤ (b &&& 255).toInt ∧ (b &&& 255).toInt ≤ 255 := by
    rw [e2, nI_toInt (by omega)]
    omega
  obtain ⟨b2, b3⟩ := o3 (rx_up r z.1.length (b &&& 255).toInt) rx_up_same ((rx_up_same 0 (rx_pos hR.1)).trans hR.1.1) (fun h => by cases h) (by rw [rx_up_self]; omega)
  exact rx_stepT hXS hsin hR ht2 hS1 K htab hq_p (by omega) b2 b3
end RXTX
end
section
noncomputable def rxI59_0 (S0 : Nat → Int → Int) (ws : List Int) (S : Nat → Int → Int) (tx : Int) : Prop := S = S0 ∧ ws = [412, tx]
noncomputable def rxm59_0 (S0 : Nat → Int → Int) (ws : List Int) (S : Nat → Int → Int) (tx : Int) : Nat := 1000000
noncomputable def rxz59_0 : rx_Z := ([(0, 0), (0, 0), (0, 0), (0, 0), (0, 0), (0, 0), (0, 0), (0, 0), (0, 1522)], [], [(((0, 412), 0), .inr (3, (0, 411))), (((8, 0), 1000021), .inl none)], 0, 0, 0, [(0, .inr (3, (0, 412))), (1, .inr (3, (8, 0)))], [])
noncomputable def rxI59_1 (S0 : Nat → Int → Int) (ws : List Int) (S : Nat → Int → Int) (tx d : Int) : Prop := S = S0 ∧ ws = [412, tx] ∧ d = S 412 3 - S 412 2
noncomputable def rxm59_1 (S0 : Nat → Int → Int) (ws : List Int) (S : Nat → Int → Int) (tx d : Int) : Nat := 900000
noncomputable def rxz59_1 : rx_Z := ([(0, 0), (0, 0), (0, 0), (0, 0), (0, 0), (0, 0), (0, 0), (0, 0), (0, 1522), ((-400), 400)], [], [(((8, 0), 1000021), .inl none), (((0, 412), 0), .inr (3, (0, 411)))], 0, 0, 10, [(0, .inr (3, (0, 412))), (1, .inr (3, (8, 0)))], [.inr (3, (8, 0)), .inr (0, (9, 0))])
noncomputable def rxI59_2 (S0 : Nat → Int → Int) (ws : List Int) (S : Nat → Int → Int) (tx d n : Int) : Prop := S = S0 ∧ ws = [412, tx] ∧ d = S 412 3 - S 412 2 ∧ n = rxLn tx
noncomputable def rxm59_2 (S0 : Nat → Int → Int) (ws : List Int) (S : Nat → Int → Int) (tx d n : Int) : Nat := 800000
noncomputable def rxz59_2 : rx_Z := ([(0, 0), (0, 0), (0, 0), (0, 0), (0, 0), (0, 0), (0, 0), (0, 0), (0, 1522), ((-400), 400), (0, 999)], [], [(((8, 0), 1000021), .inl none), (((0, 412), 0), .inr (3, (0, 411)))], 0, 0, 13, [(0, .inr (3, (0, 412))), (1, .inr (3, (8, 0)))], [.inr (0, (10, 0)), .inr (0, (9, 0))])
noncomputable def rxI59_3 (S0 : Nat → Int → Int) (ws : List Int) (S : Nat → Int → Int) (tx i : Int) : Prop := S = S0 ∧ ws = [412, tx] ∧ S 412 3 - S 412 2 = rxLn tx ∧ S 412 3 ≤ S 412 1
noncomputable def rxm59_3 (S0 : Nat → Int → Int) (ws : List Int) (S : Nat → Int → Int) (tx i : Int) : Nat := 100 * (500 - i).toNat + 50
noncomputable def rxz59_3 : rx_Z := ([(0, 0), (0, 0), (0, 0), (0, 0), (0, 0), (0, 0), (0, 0), (0, 0), (0, 1522), (0, 400)], [], [(((8, 0), 1000021), .inl none), (((0, 412), 0), .inr (3, (0, 411)))], 0, 0, 31, [(0, .inr (3, (0, 412))), (1, .inr (3, (8, 0))), (2, .inr (0, (9, 0)))], [])
noncomputable def rxI59_4 (S0 : Nat → Int → Int) (ws : List Int) (S : Nat → Int → Int) (tx i i2 : Int) : Prop := i2 = i ∧ S = S0 ∧ ws = [412, tx] ∧ S 412 3 - S 412 2 = rxLn tx ∧ S 412 3 ≤ S 412 1
noncomputable def rxm59_4 (S0 : Nat → Int → Int) (ws : List Int) (S : Nat → Int → Int) (tx i i2 : Int) : Nat := 100 * (500 - i).toNat + 40
noncomputable def rxz59_4 : rx_Z := ([(0, 0), (0, 0), (0, 0), (0, 0), (0, 0), (0, 0), (0, 0), (0, 0), (0, 1522), (0, 400), (0, 400)], [], [(((8, 0), 1000021), .inl none), (((0, 412), 0), .inr (3, (0, 411)))], 0, 0, 33, [(0, .inr (3, (0, 412))), (1, .inr (3, (8, 0))), (2, .inr (0, (9, 0)))], [.inr (3, (8, 0)), .inr (0, (10, 0))])
noncomputable def rxI59_5 (S0 : Nat → Int → Int) (ws : List Int) (S : Nat → Int → Int) (tx i i2 n : Int) : Prop := i2 = i ∧ n = rxLn tx ∧ S = S0 ∧ ws = [412, tx] ∧ S 412 3 - S 412 2 = rxLn tx ∧ S 412 3 ≤ S 412 1
noncomputable def rxm59_5 (S0 : Nat → Int → Int) (ws : List Int) (S : Nat → Int → Int) (tx i i2 n : Int) : Nat := 100 * (500 - i).toNat + 30
noncomputable def rxz59_5 : rx_Z := ([(0, 0), (0, 0), (0, 0), (0, 0), (0, 0), (0, 0), (0, 0), (0, 0), (0, 1522), (0, 400), (0, 400), (0, 999)], [], [(((8, 0), 1000021), .inl none), (((0, 412), 0), .inr (3, (0, 411)))], 0, 0, 36, [(0, .inr (3, (0, 412))), (1, .inr (3, (8, 0))), (2, .inr (0, (9, 0)))], [.inr (0, (11, 0)), .inr (0, (10, 0))])
noncomputable def rxI59_6 (S0 : Nat → Int → Int) (ws : List Int) (S : Nat → Int → Int) (tx i ix : Int) : Prop := i < rxLn tx ∧ S = S0 ∧ ws = [412, tx] ∧ S 412 3 - S 412 2 = rxLn tx ∧ S 412 3 ≤ S 412 1
noncomputable def rxm59_6 (S0 : Nat → Int → Int) (ws : List Int) (S : Nat → Int → Int) (tx i ix : Int) : Nat := 100 * (500 - i).toNat + 20
noncomputable def rxz59_6 : rx_Z := ([(0, 0), (0, 0), (0, 0), (0, 0), (0, 0), (0, 0), (0, 0), (0, 0), (0, 1522), (0, 399), (0, 399)], [], [(((8, 0), 1000021), .inl none), (((0, 412), 0), .inr (3, (0, 411)))], 0, 0, 49, [(0, .inr (3, (0, 412))), (1, .inr (3, (8, 0))), (2, .inr (0, (9, 0)))], [.inr (0, (10, 0)), .inr (3, (0, 411))])
noncomputable def rxI59_7 (S0 : Nat → Int → Int) (ws : List Int) (S : Nat → Int → Int) (tx i cv i3 : Int) : Prop := i3 = i ∧ i < rxLn tx ∧ S = S0 ∧ ws = [412, tx] ∧ S 412 3 - S 412 2 = rxLn tx ∧ S 412 3 ≤ S 412 1
noncomputable def rxm59_7 (S0 : Nat → Int → Int) (ws : List Int) (S : Nat → Int → Int) (tx i cv i3 : Int) : Nat := 100 * (500 - i).toNat + 10
noncomputable def rxz59_7 : rx_Z := ([(0, 0), (0, 0), (0, 0), (0, 0), (0, 0), (0, 0), (0, 0), (0, 0), (0, 1522), (0, 399), (0, 255), (0, 399)], [], [(((8, 0), 1000021), .inl none), (((0, 412), 0), .inr (3, (0, 411)))], 0, 0, 52, [(0, .inr (3, (0, 412))), (1, .inr (3, (8, 0))), (2, .inr (0, (9, 0)))], [.inr (0, (11, 0)), .inr (3, (8, 0)), .inr (0, (10, 0))])
noncomputable def rxI59_8 (S0 : Nat → Int → Int) (ws : List Int) (S : Nat → Int → Int) (tx i cv i3 ch : Int) : Prop := i < rxLn tx ∧ S = S0 ∧ ws = [412, tx] ∧ S 412 3 - S 412 2 = rxLn tx ∧ S 412 3 ≤ S 412 1
noncomputable def rxm59_8 (S0 : Nat → Int → Int) (ws : List Int) (S : Nat → Int → Int) (tx i cv i3 ch : Int) : Nat := 100 * (500 - i).toNat + 5
noncomputable def rxz59_8 : rx_Z := ([(0, 0), (0, 0), (0, 0), (0, 0), (0, 0), (0, 0), (0, 0), (0, 0), (0, 1522), (0, 399), (0, 255), (0, 399), (0, 255)], [], [(((8, 0), 1000021), .inl none), (((0, 412), 0), .inr (3, (0, 411)))], 0, 0, 55, [(0, .inr (3, (0, 412))), (1, .inr (3, (8, 0))), (2, .inr (0, (9, 0)))], [.inr (0, (12, 0)), .inr (0, (10, 0))])
noncomputable def rxo59_0_0 : bx_HO := (([(0, 0), (0, 0), (0, 0), (0, 0), (0, 0), (0, 0), (0, 0), (0, 0), (0, 1522), (0, 400), (0, 400), ((-400), 400)], [(604462909807314587353098000000, (9, 0), (11, 0))], [(((0, 0), 1851192626986356797825753743950570534658660943933713684904017920000000), .inr (0, (10, 0))), (((0, 412), 2), .inr (0, (10, 0))), (((0, 0), 1851192626986356798026460450737346142932482408387548938457841664000000), .inr (0, (9, 0))), (((0, 412), 3), .inr (0, (9, 0))), (((0, 412), 0), .inr (3, (0, 411))), (((8, 0), 1000021), .inl none)], 0, 0, 10, [(0, .inr (3, (0, 412))), (1, .inr (3, (8, 0)))], [.inr (3, (8, 0)), .inr (0, (11, 0))]), [], [], [(0, 0), (0, 0), (0, 0), (0, 0), (0, 0), (0, 0), (0, 0), (0, 0), (8, 0), (11, 0)], 1)
noncomputable def rxo59_2_0 : bx_HO := (([(0, 0), (0, 0), (0, 0), (0, 0), (0, 0), (0, 0), (0, 0), (0, 0), (0, 1522), (0, 400), (0, 400), (0, 400), (0, 400)], [(1, (11, 0), (12, 0)), (2, (9, 0), (10, 0))], [(((0, 0), 1851192626986356797625047037163794926384839479479878431350194176000000), .inr (0, (12, 0))), (((0, 412), 1), .inr (0, (12, 0))), (((0, 0), 1851192626986356798026460450737346142932482408387548938457841664000000), .inr (0, (11, 0))), (((0, 412), 3), .inr (0, (11, 0))), (((8, 0), 1000021), .inl none), (((0, 412), 0), .inr (3, (0, 411)))], 0, 0, 31, [(2, .inr (0, (0, 0))), (0, .inr (3, (0, 412))), (1, .inr (3, (8, 0)))], []), [], [], [(0, 0), (0, 0), (0, 0), (0, 0), (0, 0), (0, 0), (0, 0), (0, 0), (8, 0), (0, 0)], 3)
noncomputable def rxe59_2_0 : rx_End × List (Nat × Int × Int) := (([(0, 0), (0, 0), (0, 0), (0, 0), (0, 0), (0, 0), (0, 0), (0, 0), (0, 1522), (0, 400), (0, 400), (1, 400), (0, 399)], [(0, (12, 0), (11, 0)), (2, (9, 0), (10, 0))], [(((0, 0), 1851192626986356797625047037163794926384839479479878431350194176000000), .inr (0, (12, 0))), (((0, 412), 1), .inr (0, (12, 0))), (((0, 0), 1851192626986356798026460450737346142932482408387548938457841664000000), .inr (0, (11, 0))), (((0, 412), 3), .inr (0, (11, 0))), (((8, 0), 1000021), .inl none), (((0, 412), 0), .inr (3, (0, 411)))], some (.inr (0, (0, 0)))), [])
noncomputable def rxe59_2_1 : rx_End × List (Nat × Int × Int) := (([(0, 0), (0, 0), (0, 0), (0, 0), (0, 0), (0, 0), (0, 0), (0, 0), (0, 1522), ((-400), 400), (0, 999)], [(3, (9, 0), (10, 0))], [(((8, 0), 1000021), .inl none), (((0, 412), 0), .inr (3, (0, 411)))], some (.inr (0, (0, 0)))), [])
noncomputable def rxo59_3_0 : bx_HO := (([(0, 0), (0, 0), (0, 0), (0, 0), (0, 0), (0, 0), (0, 0), (0, 0), (0, 1522), (0, 400)], [], [(((8, 0), 1000021), .inl none), (((0, 412), 0), .inr (3, (0, 411)))], 0, 0, 33, [(0, .inr (3, (0, 412))), (1, .inr (3, (8, 0))), (2, .inr (0, (9, 0)))], [.inr (3, (8, 0)), .inr (0, (9, 0))]), [], [], [(0, 0), (0, 0), (0, 0), (0, 0), (0, 0), (0, 0), (0, 0), (0, 0), (8, 0), (9, 0), (9, 0)], 4)
noncomputable def rxo59_5_0 : bx_HO := (([(0, 0), (0, 0), (0, 0), (0, 0), (0, 0), (0, 0), (0, 0), (0, 0), (0, 1522), (0, 400), (0, 400), (1, 999), (0, 400), (0, 800)], [(604462909807314587353097000000, (13, 0), (12, 0)), (0, (10, 0), (11, 0))], [(((0, 0), 1851192626986356797825753743950570534658660943933713684904017920000000), .inr (0, (12, 0))), (((0, 412), 2), .inr (0, (12, 0))), (((8, 0), 1000021), .inl none), (((0, 412), 0), .inr (3, (0, 411)))], 0, 0, 49, [(0, .inr (3, (0, 412))), (1, .inr (3, (8, 0))), (2, .inr (0, (9, 0)))], [.inr (0, (13, 0)), .inr (3, (0, 411))]), [(9, 0, 399), (13, 0, 399)], [], [(0, 0), (0, 0), (0, 0), (0, 0), (0, 0), (0, 0), (0, 0), (0, 0), (8, 0), (9, 0), (13, 0)], 6)
noncomputable def rxe59_5_0 : rx_End × List (Nat × Int × Int) := (([(0, 0), (0, 0), (0, 0), (0, 0), (0, 0), (0, 0), (0, 0), (0, 0), (0, 1522), (0, 400), (0, 400), (0, 400)], [(1, (11, 0), (10, 0))], [(((8, 0), 1000021), .inl none), (((0, 412), 0), .inr (3, (0, 411)))], some (.inr (0, (0, 1)))), [])
noncomputable def rxo59_6_0 : bx_HO := (([(0, 0), (0, 0), (0, 0), (0, 0), (0, 0), (0, 0), (0, 0), (0, 0), (0, 1522), (0, 399), (0, 399), (0, 255)], [], [(((0, 0), 1851192626986356797424370955790042202572729718740712036934811648000000), .inr (0, (11, 0))), (((8, 0), 1000021), .inl none), (((0, 412), 0), .inr (3, (0, 411)))], 0, 0, 52, [(0, .inr (3, (0, 412))), (1, .inr (3, (8, 0))), (2, .inr (0, (9, 0)))], [.inr (0, (9, 0)), .inr (3, (8, 0)), .inr (0, (11, 0))]), [], [], [(0, 0), (0, 0), (0, 0), (0, 0), (0, 0), (0, 0), (0, 0), (0, 0), (8, 0), (9, 0), (11, 0), (9, 0)], 7)
noncomputable def rxo59_8_0 : bx_HO := (([(0, 0), (0, 0), (0, 0), (0, 0), (0, 0), (0, 0), (0, 0), (0, 0), (0, 1522), (0, 399), (0, 255), (0, 399), (0, 255)], [(2, (10, 0), (12, 0))], [(((8, 0), 1000021), .inl none), (((0, 412), 0), .inr (3, (0, 411)))], 0, 0, 31, [(2, .inr (0, (9, 1))), (0, .inr (3, (0, 412))), (1, .inr (3, (8, 0)))], []), [], [], [(0, 0), (0, 0), (0, 0), (0, 0), (0, 0), (0, 0), (0, 0), (0, 0), (8, 0), (9, 1)], 3)
noncomputable def rxe59_8_0 : rx_End × List (Nat × Int × Int) := (([(0, 0), (0, 0), (0, 0), (0, 0), (0, 0), (0, 0), (0, 0), (0, 0), (0, 1522), (0, 399), (0, 255), (0, 399), (0, 255)], [(3, (10, 0), (12, 0))], [(((8, 0), 1000021), .inl none), (((0, 412), 0), .inr (3, (0, 411)))], some (.inr (0, (0, 0)))), [])
noncomputable def rxY59 : List bx_HE := [(rxz59_0, [rxo59_0_0], []), (rxz59_1, [], []), (rxz59_2, [rxo59_2_0], [rxe59_2_0, rxe59_2_1]), (rxz59_3, [rxo59_3_0], []), (rxz59_4, [], []), (rxz59_5, [rxo59_5_0], [rxe59_5_0]), (rxz59_6, [rxo59_6_0], []), (rxz59_7, [], []), (rxz59_8, [rxo59_8_0], [rxe59_8_0])]
noncomputable def rxU59 (q : bx_HE) : Bool := Nat.beq (rx_zpc q.1) 10 || Nat.beq (rx_zpc q.1) 33 || Nat.beq (rx_zpc q.1) 52
noncomputable def rxYB59 : bx_B := (rxV, rxNP, rxDmf, bx_mdH rxC59.2.2.1)
set_option maxRecDepth 100000 in
theorem rxYc59 : bx_chkH rxYB59 rxM59 rxC59 rxY59 (rxU59, fun cut z => rx_ex2 (rxCT rxYB59 rxCnE) cut 30000 rxC59.2.2.2.1 59 z) = true := by decide +kernel
noncomputable def rxI59 (S0 : Nat → Int → Int) (ws : List Int) (i : Nat) : bx_SP := fun S r => match i with | 0 => rxI59_0 S0 ws S (r 8) | 1 => rxI59_1 S0 ws S (r 8) (r 9) | 2 => rxI59_2 S0 ws S (r 8) (r 9) (r 10) | 3 => rxI59_3 S0 ws S (r 8) (r 9) | 4 => rxI59_4 S0 ws S (r 8) (r 9) (r 10) | 5 => rxI59_5 S0 ws S (r 8) (r 9) (r 10) (r 11) | 6 => rxI59_6 S0 ws S (r 8) (r 9) (r 10) | 7 => rxI59_7 S0 ws S (r 8) (r 9) (r 10) (r 11) | 8 => rxI59_8 S0 ws S (r 8) (r 9) (r 10) (r 11) (r 12) | _ => False
noncomputable def rxm59 (S0 : Nat → Int → Int) (ws : List Int) (i : Nat) (S : Nat → Int → Int) (r : Nat → Int) : Nat := match i with | 0 => rxm59_0 S0 ws S (r 8) | 1 => rxm59_1 S0 ws S (r 8) (r 9) | 2 => rxm59_2 S0 ws S (r 8) (r 9) (r 10) | 3 => rxm59_3 S0 ws S (r 8) (r 9) | 4 => rxm59_4 S0 ws S (r 8) (r 9) (r 10) | 5 => rxm59_5 S0 ws S (r 8) (r 9) (r 10) (r 11) | 6 => rxm59_6 S0 ws S (r 8) (r 9) (r 10) | 7 => rxm59_7 S0 ws S (r 8) (r 9) (r 10) (r 11) | 8 => rxm59_8 S0 ws S (r 8) (r 9) (r 10) (r 11) (r 12) | _ => 0
noncomputable def rxP59 (S0 : Nat → Int → Int) (ws : List Int) : Prop := ∃ tx : Int, ws = [412, tx] ∧ 522 ≤ tx ∧ tx < 547
noncomputable def rxPS59 (S0 : Nat → Int → Int) (ws : List Int) (S : Nat → Int → Int) (w : Option Int) : Prop := True
theorem rxq59_1 {S0 : Nat → Int → Int} {ws : List Int} {S : Nat → Int → Int} {tx d : Int} (hP : rxP59 S0 ws) (hin : bx_same rxL (bx_mdl rxC59.2.2.1) S0 S) (I0 : bx_Inv rxL S) (hinv : rxI59_1 S0 ws S tx d) (l8 : 0 ≤ tx) (u8 : tx ≤ 1522) (l9 : (-400) ≤ d) (u9 : d ≤ 400) : (522 ≤ tx ∧ tx < 547) ∧ ∀ n : Int, n = rxLn tx → (0 ≤ n ∧ n ≤ 999) → rxI59_2 S0 ws S tx d n ∧ rxm59_2 S0 ws S tx d n < rxm59_1 S0 ws S tx d := by
  obtain ⟨rfl, hw, hd⟩ := hinv
  obtain ⟨tx2, hw2, x1, x2⟩ := hP
  have hx : tx = tx2 := Option.some.inj (congrArg (fun l => l[1]?) (hw.symm.trans hw2))
  have hl := rxLn_box (k := tx)
  exact ⟨⟨by omega, by omega⟩, fun n hn hb => ⟨⟨rfl, hw, hd, hn⟩, by unfold rxm59_1 rxm59_2; omega⟩⟩
theorem rxs59_1 {X : (Nat → Int → Int) → Prop} {S0 : Nat → Int → Int} {ws : List Int} (hP : rxP59 S0 ws) : rx_obT X S0 rxC59.2.2.1 (rxI59 S0 ws) (rxm59 S0 ws) 1 2 rxz59_1 (8, 0) none 0 999 := by
  intro S r hinv hXS I0 hin hs_ hf_
  have b_ := bx_bds_sat hs_
  obtain ⟨⟨l8, u8⟩, ⟨l9, u9⟩, -⟩ := b_
  have g := rxq59_1 hP hin I0 hinv l8 u8 l9 u9
  rw [bx_x_ok hs_.1]
  refine ⟨g.1, fun a ha => absurd ha (by simp), fun r_p hr h0_ hv hb => ?_⟩
  · have g2 := g.2 (r_p 10) (hv rfl) hb
    show rxI59_2 S0 ws S (r_p 8) (r_p 9) (r_p 10) ∧ rxm59_2 S0 ws S (r_p 8) (r_p 9) (r_p 10) < _
    rw [hr 8 (by decide), hr 9 (by decide)]
    exact g2
theorem rxq59_4 {S0 : Nat → Int → Int} {ws : List Int} {S : Nat → Int → Int} {tx i i2 : Int} (hP : rxP59 S0 ws) (hin : bx_same rxL (bx_mdl rxC59.2.2.1) S0 S) (I0 : bx_Inv rxL S) (hinv : rxI59_4 S0 ws S tx i i2) (l8 : 0 ≤ tx) (u8 : tx ≤ 1522) (l9 : 0 ≤ i) (u9 : i ≤ 400) (l10 : 0 ≤ i2) (u10 : i2 ≤ 400) : (522 ≤ tx ∧ tx < 547) ∧ ∀ n : Int, n = rxLn tx → (0 ≤ n ∧ n ≤ 999) → rxI59_5 S0 ws S tx i i2 n ∧ rxm59_5 S0 ws S tx i i2 n < rxm59_4 S0 ws S tx i i2 := by
  obtain ⟨hi, rfl, hw, h1, h2⟩ := hinv
  obtain ⟨tx2, hw2, x1, x2⟩ := hP
  have hx : tx = tx2 := Option.some.inj (congrArg (fun l => l[1]?) (hw.symm.trans hw2))
  have hl := rxLn_box (k := tx)
  exact ⟨⟨by omega, by omega⟩, fun n hn hb => ⟨⟨hi, hn, rfl, hw, h1, h2⟩, by unfold rxm59_4 rxm59_5; omega⟩⟩
theorem rxs59_4 {X : (Nat → Int → Int) → Prop} {S0 : Nat → Int → Int} {ws : List Int} (hP : rxP59 S0 ws) : rx_obT X S0 rxC59.2.2.1 (rxI59 S0 ws) (rxm59 S0 ws) 4 5 rxz59_4 (8, 0) none 0 999 := by
  intro S r hinv hXS I0 hin hs_ hf_
  have b_ := bx_bds_sat hs_
  obtain ⟨⟨l8, u8⟩, ⟨l9, u9⟩, ⟨l10, u10⟩, -⟩ := b_
  have g := rxq59_4 hP hin I0 hinv l8 u8 l9 u9 l10 u10
  rw [bx_x_ok hs_.1]
  refine ⟨g.1, fun a ha => absurd ha (by simp), fun r_p hr h0_ hv hb => ?_⟩
  · have g2 := g.2 (r_p 11) (hv rfl) hb
    show rxI59_5 S0 ws S (r_p 8) (r_p 9) (r_p 10) (r_p 11) ∧ rxm59_5 S0 ws S (r_p 8) (r_p 9) (r_p 10) (r_p 11) < _
    rw [hr 8 (by decide), hr 9 (by decide), hr 10 (by decide)]
    exact g2
theorem rxq59_7 {S0 : Nat → Int → Int} {ws : List Int} {S : Nat → Int → Int} {tx i cv i3 : Int} (hP : rxP59 S0 ws) (hin : bx_same rxL (bx_mdl rxC59.2.2.1) S0 S) (I0 : bx_Inv rxL S) (hinv : rxI59_7 S0 ws S tx i cv i3) (l8 : 0 ≤ tx) (u8 : tx ≤ 1522) (l9 : 0 ≤ i) (u9 : i ≤ 399) (l10 : 0 ≤ cv) (u10 : cv ≤ 255) (l11 : 0 ≤ i3) (u11 : i3 ≤ 399) : (522 ≤ tx ∧ tx < 547) ∧ (0 ≤ i3 ∧ i3 < rxLn tx) ∧ ∀ ch : Int, (0 ≤ ch ∧ ch ≤ 255) → rxI59_8 S0 ws S tx i cv i3 ch ∧ rxm59_8 S0 ws S tx i cv i3 ch < rxm59_7 S0 ws S tx i cv i3 := by
  obtain ⟨hi, hi2, rfl, hw, h1, h2⟩ := hinv
  obtain ⟨tx2, hw2, x1, x2⟩ := hP
  have hx : tx = tx2 := Option.some.inj (congrArg (fun l => l[1]?) (hw.symm.trans hw2))
  have hl := rxLn_box (k := tx)
  exact ⟨⟨by omega, by omega⟩, ⟨by omega, by omega⟩, fun ch hb => ⟨⟨hi2, rfl, hw, h1, h2⟩, by unfold rxm59_7 rxm59_8; omega⟩⟩
theorem rxs59_7 {X : (Nat → Int → Int) → Prop} {S0 : Nat → Int → Int} {ws : List Int} (hP : rxP59 S0 ws) : rx_obT X S0 rxC59.2.2.1 (rxI59 S0 ws) (rxm59 S0 ws) 7 8 rxz59_7 (8, 0) (some (11, 0)) 0 255 := by
  intro S r hinv hXS I0 hin hs_ hf_
  have b_ := bx_bds_sat hs_
  obtain ⟨⟨l8, u8⟩, ⟨l9, u9⟩, ⟨l10, u10⟩, ⟨l11, u11⟩, -⟩ := b_
  have g := rxq59_7 hP hin I0 hinv l8 u8 l9 u9 l10 u10 l11 u11
  rw [bx_x_ok hs_.1]
  refine ⟨g.1, fun a ha => ?_, fun r_p hr h0_ _ hb => ?_⟩
  · cases ha
    rw [bx_x_ok hs_.1]
    exact g.2.1
  · have g2 := g.2.2 (r_p 12) hb
    show rxI59_8 S0 ws S (r_p 8) (r_p 9) (r_p 10) (r_p 11) (r_p 12) ∧ rxm59_8 S0 ws S (r_p 8) (r_p 9) (r_p 10) (r_p 11) (r_p 12) < _
    rw [hr 8 (by decide), hr 9 (by decide), hr 10 (by decide), hr 11 (by decide)]
    exact g2
theorem rxc59_0_0 {S0 : Nat → Int → Int} {ws : List Int} {S : Nat → Int → Int} {tx x9 x10 x11 : Int} (hP : rxP59 S0 ws) (hin : bx_same rxL (bx_mdl rxC59.2.2.1) S0 S) (I0 : bx_Inv rxL S) (hinv : rxI59_0 S0 ws S tx) (l8 : 0 ≤ tx) (u8 : tx ≤ 1522) (l9 : 0 ≤ x9) (u9 : x9 ≤ 400) (l10 : 0 ≤ x10) (u10 : x10 ≤ 400) (l11 : (-400) ≤ x11) (u11 : x11 ≤ 400) (f0 : x9 = x11 + x10) (e1 : S 412 3 = x9) (e0 : S 412 2 = x10) : (True) ∧ (True) ∧ rxI59_1 S0 ws S tx x11 ∧ rxm59_1 S0 ws S tx x11 < rxm59_0 S0 ws S tx := by
  obtain ⟨rfl, hw⟩ := hinv
  exact ⟨trivial, trivial, ⟨rfl, hw, by omega⟩, by unfold rxm59_0 rxm59_1; omega⟩
theorem rxg59_0_0 {X : (Nat → Int → Int) → Prop} {S0 : Nat → Int → Int} {ws : List Int} (hP : rxP59 S0 ws) : bx_obC rxL X S0 rxC59.2.2.1 (rxI59 S0 ws) (rxm59 S0 ws) 0 rxz59_0 rxo59_0_0 := by
  intro S S_p r r_p hinv hX hin hsm_ hseg
  obtain ⟨I0, I1, h0_, hr_, b_, f_, d_⟩ := bx_cl (evs := [(0, (0, 412), (0, 2), .inr (0, (10, 0))), (0, (0, 412), (0, 3), .inr (0, (9, 0)))]) (fvs := [(5, (9, 0), (11, 0), (10, 0))]) hseg (by decide +kernel) (by decide +kernel)
  have hinv : rxI59_0 S0 ws S (r 8) := hinv
  rw [← hr_ 8 (by decide)] at hinv
  obtain ⟨⟨l8, u8⟩, ⟨l9, u9⟩, ⟨l10, u10⟩, ⟨l11, u11⟩, -⟩ := b_
  obtain ⟨f0, -⟩ := f_
  obtain ⟨e0, ⟨e1, w_⟩⟩ := d_
  subst w_
  have g := rxc59_0_0 hP hin I0 hinv l8 u8 l9 u9 l10 u10 l11 u11 f0 e1 e0
  refine ⟨bx_narP_ok (l := []) g.1, bx_nfP_ok h0_ (fvs := []) (by decide +kernel) g.2.1, ?_, ?_⟩
  · show rxI59_1 S0 ws S_p (bx_val [(0, 0), (0, 0), (0, 0), (0, 0), (0, 0), (0, 0), (0, 0), (0, 0), (8, 0), (11, 0)] r_p 8) (bx_val [(0, 0), (0, 0), (0, 0), (0, 0), (0, 0), (0, 0), (0, 0), (0, 0), (8, 0), (11, 0)] r_p 9)
    rw [bx_val_x (n := 8) (e := (8, 0)) h0_ rfl, bx_val_x (n := 9) (e := (11, 0)) h0_ rfl]
    exact g.2.2.1
  · show rxm59_1 S0 ws S_p (bx_val [(0, 0), (0, 0), (0, 0), (0, 0), (0, 0), (0, 0), (0, 0), (0, 0), (8, 0), (11, 0)] r_p 8) (bx_val [(0, 0), (0, 0), (0, 0), (0, 0), (0, 0), (0, 0), (0, 0), (0, 0), (8, 0), (11, 0)] r_p 9) < rxm59_0 S0 ws S_p (r 8)
    rw [bx_val_x (n := 8) (e := (8, 0)) h0_ rfl, bx_val_x (n := 9) (e := (11, 0)) h0_ rfl, ← hr_ 8 (by decide)]
    exact g.2.2.2
theorem rxc59_2_0 {S0 : Nat → Int → Int} {ws : List Int} {S : Nat → Int → Int} {tx d n x11 x12 : Int} (hP : rxP59 S0 ws) (hin : bx_same rxL (bx_mdl rxC59.2.2.1) S0 S) (I0 : bx_Inv rxL S) (hinv : rxI59_2 S0 ws S tx d n) (l8 : 0 ≤ tx) (u8 : tx ≤ 1522) (l9 : 0 ≤ d) (u9 : d ≤ 400) (l10 : 0 ≤ n) (u10 : n ≤ 400) (l11 : 0 ≤ x11) (u11 : x11 ≤ 400) (l12 : 0 ≤ x12) (u12 : x12 ≤ 400) (f0 : x11 ≤ x12) (f1 : d = n) (e1 : S 412 3 = x11) (e0 : S 412 1 = x12) : (True) ∧ (True) ∧ rxI59_3 S0 ws S tx 0 ∧ rxm59_3 S0 ws S tx 0 < rxm59_2 S0 ws S tx d n := by
  obtain ⟨rfl, hw, hd, hn⟩ := hinv
  exact ⟨trivial, trivial, ⟨rfl, hw, by omega, by omega⟩, by unfold rxm59_2 rxm59_3; omega⟩
theorem rxg59_2_0 {X : (Nat → Int → Int) → Prop} {S0 : Nat → Int → Int} {ws : List Int} (hP : rxP59 S0 ws) : bx_obC rxL X S0 rxC59.2.2.1 (rxI59 S0 ws) (rxm59 S0 ws) 2 rxz59_2 rxo59_2_0 := by
  intro S S_p r r_p hinv hX hin hsm_ hseg
  obtain ⟨I0, I1, h0_, hr_, b_, f_, d_⟩ := bx_cl (evs := [(0, (0, 412), (0, 1), .inr (0, (12, 0))), (0, (0, 412), (0, 3), .inr (0, (11, 0)))]) (fvs := [(1, (11, 0), (12, 0), (0, 0)), (2, (9, 0), (10, 0), (0, 0))]) hseg (by decide +kernel) (by decide +kernel)
  have hinv : rxI59_2 S0 ws S (r 8) (r 9) (r 10) := hinv
  rw [← hr_ 8 (by decide), ← hr_ 9 (by decide), ← hr_ 10 (by decide)] at hinv
  obtain ⟨⟨l8, u8⟩, ⟨l9, u9⟩, ⟨l10, u10⟩, ⟨l11, u11⟩, ⟨l12, u12⟩, -⟩ := b_
  obtain ⟨f0, f1, -⟩ := f_
  obtain ⟨e0, ⟨e1, w_⟩⟩ := d_
  subst w_
  have g := rxc59_2_0 hP hin I0 hinv l8 u8 l9 u9 l10 u10 l11 u11 l12 u12 f0 f1 e1 e0
  refine ⟨bx_narP_ok (l := []) g.1, bx_nfP_ok h0_ (fvs := []) (by decide +kernel) g.2.1, ?_, ?_⟩
  · show rxI59_3 S0 ws S_p (bx_val [(0, 0), (0, 0), (0, 0), (0, 0), (0, 0), (0, 0), (0, 0), (0, 0), (8, 0), (0, 0)] r_p 8) (bx_val [(0, 0), (0, 0), (0, 0), (0, 0), (0, 0), (0, 0), (0, 0), (0, 0), (8, 0), (0, 0)] r_p 9)
    rw [bx_val_x (n := 8) (e := (8, 0)) h0_ rfl, bx_val_x (n := 9) (e := (0, 0)) h0_ rfl]
    exact g.2.2.1
  · show rxm59_3 S0 ws S_p (bx_val [(0, 0), (0, 0), (0, 0), (0, 0), (0, 0), (0, 0), (0, 0), (0, 0), (8, 0), (0, 0)] r_p 8) (bx_val [(0, 0), (0, 0), (0, 0), (0, 0), (0, 0), (0, 0), (0, 0), (0, 0), (8, 0), (0, 0)] r_p 9) < rxm59_2 S0 ws S_p (r 8) (r 9) (r 10)
    rw [bx_val_x (n := 8) (e := (8, 0)) h0_ rfl, bx_val_x (n := 9) (e := (0, 0)) h0_ rfl, ← hr_ 8 (by decide), ← hr_ 9 (by decide), ← hr_ 10 (by decide)]
    exact g.2.2.2
theorem rxd59_2_0 {S0 : Nat → Int → Int} {ws : List Int} {S : Nat → Int → Int} {tx d n x11 x12 : Int} (hP : rxP59 S0 ws) (hin : bx_same rxL (bx_mdl rxC59.2.2.1) S0 S) (hin2 : bx_same rxL (bx_mdl rxC59.2.2.1) S S) (I0 : bx_Inv rxL S) (I1 : bx_Inv rxL S) (hinv : rxI59_2 S0 ws S tx d n) (l8 : 0 ≤ tx) (u8 : tx ≤ 1522) (l9 : 0 ≤ d) (u9 : d ≤ 400) (l10 : 0 ≤ n) (u10 : n ≤ 400) (l11 : 1 ≤ x11) (u11 : x11 ≤ 400) (l12 : 0 ≤ x12) (u12 : x12 ≤ 399) (f0 : x12 < x11) (f1 : d = n) (e1 : S 412 3 = x11) (e0 : S 412 1 = x12) : (True) ∧ rxPS59 S0 ws S (some 0) := by
  exact ⟨trivial, trivial⟩
theorem rxf59_2_0 {X : (Nat → Int → Int) → Prop} {S0 : Nat → Int → Int} {ws : List Int} (hP : rxP59 S0 ws) : bx_obE rxL X S0 rxC59.2.2.1 (rxI59 S0 ws) (rxPS59 S0 ws) 2 rxz59_2 rxe59_2_0 := by
  intro S S_p r r_p hinv hX hin hsm_ hseg
  obtain ⟨I0, I1, h0_, hr_, b_, f_, d_⟩ := bx_cl (evs := [(0, (0, 412), (0, 1), .inr (0, (12, 0))), (0, (0, 412), (0, 3), .inr (0, (11, 0)))]) (fvs := [(0, (12, 0), (11, 0), (0, 0)), (2, (9, 0), (10, 0), (0, 0))]) hseg (by decide +kernel) (by decide +kernel)
  have hinv : rxI59_2 S0 ws S (r 8) (r 9) (r 10) := hinv
  rw [← hr_ 8 (by decide), ← hr_ 9 (by decide), ← hr_ 10 (by decide)] at hinv
  obtain ⟨⟨l8, u8⟩, ⟨l9, u9⟩, ⟨l10, u10⟩, ⟨l11, u11⟩, ⟨l12, u12⟩, -⟩ := b_
  obtain ⟨f0, f1, -⟩ := f_
  obtain ⟨e0, ⟨e1, w_⟩⟩ := d_
  subst w_
  have g := rxd59_2_0 hP hin hsm_ I0 I1 hinv l8 u8 l9 u9 l10 u10 l11 u11 l12 u12 f0 f1 e1 e0
  refine ⟨bx_narP_ok (l := []) g.1, ?_⟩
  show rxPS59 S0 ws S_p (some (bx_num r_p (.inr (0, (0, 0)))))
  rw [bx_xv_ok h0_]
  exact g.2
theorem rxd59_2_1 {S0 : Nat → Int → Int} {ws : List Int} {S : Nat → Int → Int} {tx d n : Int} (hP : rxP59 S0 ws) (hin : bx_same rxL (bx_mdl rxC59.2.2.1) S0 S) (hin2 : bx_same rxL (bx_mdl rxC59.2.2.1) S S) (I0 : bx_Inv rxL S) (I1 : bx_Inv rxL S) (hinv : rxI59_2 S0 ws S tx d n) (l8 : 0 ≤ tx) (u8 : tx ≤ 1522) (l9 : (-400) ≤ d) (u9 : d ≤ 400) (l10 : 0 ≤ n) (u10 : n ≤ 999) (f0 : d ≠ n) : (True) ∧ rxPS59 S0 ws S (some 0) := by
  exact ⟨trivial, trivial⟩
theorem rxf59_2_1 {X : (Nat → Int → Int) → Prop} {S0 : Nat → Int → Int} {ws : List Int} (hP : rxP59 S0 ws) : bx_obE rxL X S0 rxC59.2.2.1 (rxI59 S0 ws) (rxPS59 S0 ws) 2 rxz59_2 rxe59_2_1 := by
  intro S S_p r r_p hinv hX hin hsm_ hseg
  obtain ⟨I0, I1, h0_, hr_, b_, f_, d_⟩ := bx_cl (evs := []) (fvs := [(3, (9, 0), (10, 0), (0, 0))]) hseg (by decide +kernel) (by decide +kernel)
  have hinv : rxI59_2 S0 ws S (r 8) (r 9) (r 10) := hinv
  rw [← hr_ 8 (by decide), ← hr_ 9 (by decide), ← hr_ 10 (by decide)] at hinv
  obtain ⟨⟨l8, u8⟩, ⟨l9, u9⟩, ⟨l10, u10⟩, -⟩ := b_
  obtain ⟨f0, -⟩ := f_
  have w_ := d_
  subst w_
  have g := rxd59_2_1 hP hin hsm_ I0 I1 hinv l8 u8 l9 u9 l10 u10 f0
  refine ⟨bx_narP_ok (l := []) g.1, ?_⟩
  show rxPS59 S0 ws S_p (some (bx_num r_p (.inr (0, (0, 0)))))
  rw [bx_xv_ok h0_]
  exact g.2
theorem rxc59_3_0 {S0 : Nat → Int → Int} {ws : List Int} {S : Nat → Int → Int} {tx i : Int} (hP : rxP59 S0 ws) (hin : bx_same rxL (bx_mdl rxC59.2.2.1) S0 S) (I0 : bx_Inv rxL S) (hinv : rxI59_3 S0 ws S tx i) (l8 : 0 ≤ tx) (u8 : tx ≤ 1522) (l9 : 0 ≤ i) (u9 : i ≤ 400) : (True) ∧ (True) ∧ rxI59_4 S0 ws S tx i i ∧ rxm59_4 S0 ws S tx i i < rxm59_3 S0 ws S tx i := by
  exact ⟨trivial, trivial, ⟨by omega, hinv⟩, by unfold rxm59_3 rxm59_4; omega⟩
theorem rxg59_3_0 {X : (Nat → Int → Int) → Prop} {S0 : Nat → Int → Int} {ws : List Int} (hP : rxP59 S0 ws) : bx_obC rxL X S0 rxC59.2.2.1 (rxI59 S0 ws) (rxm59 S0 ws) 3 rxz59_3 rxo59_3_0 := by
  intro S S_p r r_p hinv hX hin hsm_ hseg
  obtain ⟨I0, I1, h0_, hr_, b_, f_, d_⟩ := bx_cl (evs := []) (fvs := []) hseg (by decide +kernel) (by decide +kernel)
  have hinv : rxI59_3 S0 ws S (r 8) (r 9) := hinv
  rw [← hr_ 8 (by decide), ← hr_ 9 (by decide)] at hinv
  obtain ⟨⟨l8, u8⟩, ⟨l9, u9⟩, -⟩ := b_
  have w_ := d_
  subst w_
  have g := rxc59_3_0 hP hin I0 hinv l8 u8 l9 u9
  refine ⟨bx_narP_ok (l := []) g.1, bx_nfP_ok h0_ (fvs := []) (by decide +kernel) g.2.1, ?_, ?_⟩
  · show rxI59_4 S0 ws S_p (bx_val [(0, 0), (0, 0), (0, 0), (0, 0), (0, 0), (0, 0), (0, 0), (0, 0), (8, 0), (9, 0), (9, 0)] r_p 8) (bx_val [(0, 0), (0, 0), (0, 0), (0, 0), (0, 0), (0, 0), (0, 0), (0, 0), (8, 0), (9, 0), (9, 0)] r_p 9) (bx_val [(0, 0), (0, 0), (0, 0), (0, 0), (0, 0), (0, 0), (0, 0), (0, 0), (8, 0), (9, 0), (9, 0)] r_p 10)
    rw [bx_val_x (n := 8) (e := (8, 0)) h0_ rfl, bx_val_x (n := 9) (e := (9, 0)) h0_ rfl, bx_val_x (n := 10) (e := (9, 0)) h0_ rfl]
    exact g.2.2.1
  · show rxm59_4 S0 ws S_p (bx_val [(0, 0), (0, 0), (0, 0), (0, 0), (0, 0), (0, 0), (0, 0), (0, 0), (8, 0), (9, 0), (9, 0)] r_p 8) (bx_val [(0, 0), (0, 0), (0, 0), (0, 0), (0, 0), (0, 0), (0, 0), (0, 0), (8, 0), (9, 0), (9, 0)] r_p 9) (bx_val [(0, 0), (0, 0), (0, 0), (0, 0), (0, 0), (0, 0), (0, 0), (0, 0), (8, 0), (9, 0), (9, 0)] r_p 10) < rxm59_3 S0 ws S_p (r 8) (r 9)
    rw [bx_val_x (n := 8) (e := (8, 0)) h0_ rfl, bx_val_x (n := 9) (e := (9, 0)) h0_ rfl, bx_val_x (n := 10) (e := (9, 0)) h0_ rfl, ← hr_ 8 (by decide), ← hr_ 9 (by decide)]
    exact g.2.2.2
theorem rxc59_5_0 {S0 : Nat → Int → Int} {ws : List Int} {S : Nat → Int → Int} {tx i i2 n x12 x13 : Int} (hP : rxP59 S0 ws) (hin : bx_same rxL (bx_mdl rxC59.2.2.1) S0 S) (I0 : bx_Inv rxL S) (hinv : rxI59_5 S0 ws S tx i i2 n) (l8 : 0 ≤ tx) (u8 : tx ≤ 1522) (l9 : 0 ≤ i) (u9 : i ≤ 400) (l10 : 0 ≤ i2) (u10 : i2 ≤ 400) (l11 : 1 ≤ n) (u11 : n ≤ 999) (l12 : 0 ≤ x12) (u12 : x12 ≤ 400) (l13 : 0 ≤ x13) (u13 : x13 ≤ 800) (f0 : x13 = x12 + i) (f1 : i2 < n) (e0 : S 412 2 = x12) : ((0 ≤ i ∧ i ≤ 399) ∧ (0 ≤ x13 ∧ x13 ≤ 399) ∧ True) ∧ (True) ∧ rxI59_6 S0 ws S tx i x13 ∧ rxm59_6 S0 ws S tx i x13 < rxm59_5 S0 ws S tx i i2 n := by
  have b3 : 0 ≤ S 412 3 ∧ S 412 3 ≤ 400 := I0 412 3 (by decide) (by decide)
  have b1 : 0 ≤ S 412 1 ∧ S 412 1 ≤ 400 := I0 412 1 (by decide) (by decide)
  have b2 : 0 ≤ S 412 2 ∧ S 412 2 ≤ 400 := I0 412 2 (by decide) (by decide)
  obtain ⟨hi, hn, hm⟩ := hinv
  have h1 := hm.2.2.1
  have h2 := hm.2.2.2
  exact ⟨⟨by omega, by omega, trivial⟩, trivial, ⟨by omega, hm⟩, by unfold rxm59_5 rxm59_6; omega⟩
theorem rxg59_5_0 {X : (Nat → Int → Int) → Prop} {S0 : Nat → Int → Int} {ws : List Int} (hP : rxP59 S0 ws) : bx_obC rxL X S0 rxC59.2.2.1 (rxI59 S0 ws) (rxm59 S0 ws) 5 rxz59_5 rxo59_5_0 := by
  intro S S_p r r_p hinv hX hin hsm_ hseg
  obtain ⟨I0, I1, h0_, hr_, b_, f_, d_⟩ := bx_cl (evs := [(0, (0, 412), (0, 2), .inr (0, (12, 0)))]) (fvs := [(5, (13, 0), (12, 0), (9, 0)), (0, (10, 0), (11, 0), (0, 0))]) hseg (by decide +kernel) (by decide +kernel)
  have hinv : rxI59_5 S0 ws S (r 8) (r 9) (r 10) (r 11) := hinv
  rw [← hr_ 8 (by decide), ← hr_ 9 (by decide), ← hr_ 10 (by decide), ← hr_ 11 (by decide)] at hinv
  obtain ⟨⟨l8, u8⟩, ⟨l9, u9⟩, ⟨l10, u10⟩, ⟨l11, u11⟩, ⟨l12, u12⟩, ⟨l13, u13⟩, -⟩ := b_
  obtain ⟨f0, f1, -⟩ := f_
  obtain ⟨e0, w_⟩ := d_
  subst w_
  have g := rxc59_5_0 hP hin I0 hinv l8 u8 l9 u9 l10 u10 l11 u11 l12 u12 l13 u13 f0 f1 e0
  refine ⟨bx_narP_ok (l := [(9, 0, 399), (13, 0, 399)]) g.1, bx_nfP_ok h0_ (fvs := []) (by decide +kernel) g.2.1, ?_, ?_⟩
  · show rxI59_6 S0 ws S_p (bx_val [(0, 0), (0, 0), (0, 0), (0, 0), (0, 0), (0, 0), (0, 0), (0, 0), (8, 0), (9, 0), (13, 0)] r_p 8) (bx_val [(0, 0), (0, 0), (0, 0), (0, 0), (0, 0), (0, 0), (0, 0), (0, 0), (8, 0), (9, 0), (13, 0)] r_p 9) (bx_val [(0, 0), (0, 0), (0, 0), (0, 0), (0, 0), (0, 0), (0, 0), (0, 0), (8, 0), (9, 0), (13, 0)] r_p 10)
    rw [bx_val_x (n := 8) (e := (8, 0)) h0_ rfl, bx_val_x (n := 9) (e := (9, 0)) h0_ rfl, bx_val_x (n := 10) (e := (13, 0)) h0_ rfl]
    exact g.2.2.1
  · show rxm59_6 S0 ws S_p (bx_val [(0, 0), (0, 0), (0, 0), (0, 0), (0, 0), (0, 0), (0, 0), (0, 0), (8, 0), (9, 0), (13, 0)] r_p 8) (bx_val [(0, 0), (0, 0), (0, 0), (0, 0), (0, 0), (0, 0), (0, 0), (0, 0), (8, 0), (9, 0), (13, 0)] r_p 9) (bx_val [(0, 0), (0, 0), (0, 0), (0, 0), (0, 0), (0, 0), (0, 0), (0, 0), (8, 0), (9, 0), (13, 0)] r_p 10) < rxm59_5 S0 ws S_p (r 8) (r 9) (r 10) (r 11)
    rw [bx_val_x (n := 8) (e := (8, 0)) h0_ rfl, bx_val_x (n := 9) (e := (9, 0)) h0_ rfl, bx_val_x (n := 10) (e := (13, 0)) h0_ rfl, ← hr_ 8 (by decide), ← hr_ 9 (by decide), ← hr_ 10 (by decide), ← hr_ 11 (by decide)]
    exact g.2.2.2
theorem rxd59_5_0 {S0 : Nat → Int → Int} {ws : List Int} {S : Nat → Int → Int} {tx i i2 n : Int} (hP : rxP59 S0 ws) (hin : bx_same rxL (bx_mdl rxC59.2.2.1) S0 S) (hin2 : bx_same rxL (bx_mdl rxC59.2.2.1) S S) (I0 : bx_Inv rxL S) (I1 : bx_Inv rxL S) (hinv : rxI59_5 S0 ws S tx i i2 n) (l8 : 0 ≤ tx) (u8 : tx ≤ 1522) (l9 : 0 ≤ i) (u9 : i ≤ 400) (l10 : 0 ≤ i2) (u10 : i2 ≤ 400) (l11 : 0 ≤ n) (u11 : n ≤ 400) (f0 : n ≤ i2) : (True) ∧ rxPS59 S0 ws S (some 1) := by
  exact ⟨trivial, trivial⟩
theorem rxf59_5_0 {X : (Nat → Int → Int) → Prop} {S0 : Nat → Int → Int} {ws : List Int} (hP : rxP59 S0 ws) : bx_obE rxL X S0 rxC59.2.2.1 (rxI59 S0 ws) (rxPS59 S0 ws) 5 rxz59_5 rxe59_5_0 := by
  intro S S_p r r_p hinv hX hin hsm_ hseg
  obtain ⟨I0, I1, h0_, hr_, b_, f_, d_⟩ := bx_cl (evs := []) (fvs := [(1, (11, 0), (10, 0), (0, 0))]) hseg (by decide +kernel) (by decide +kernel)
  have hinv : rxI59_5 S0 ws S (r 8) (r 9) (r 10) (r 11) := hinv
  rw [← hr_ 8 (by decide), ← hr_ 9 (by decide), ← hr_ 10 (by decide), ← hr_ 11 (by decide)] at hinv
  obtain ⟨⟨l8, u8⟩, ⟨l9, u9⟩, ⟨l10, u10⟩, ⟨l11, u11⟩, -⟩ := b_
  obtain ⟨f0, -⟩ := f_
  have w_ := d_
  subst w_
  have g := rxd59_5_0 hP hin hsm_ I0 I1 hinv l8 u8 l9 u9 l10 u10 l11 u11 f0
  refine ⟨bx_narP_ok (l := []) g.1, ?_⟩
  show rxPS59 S0 ws S_p (some (bx_num r_p (.inr (0, (0, 1)))))
  rw [bx_xv_ok h0_]
  exact g.2
theorem rxc59_6_0 {S0 : Nat → Int → Int} {ws : List Int} {S : Nat → Int → Int} {tx i ix x11 : Int} (hP : rxP59 S0 ws) (hin : bx_same rxL (bx_mdl rxC59.2.2.1) S0 S) (I0 : bx_Inv rxL S) (hinv : rxI59_6 S0 ws S tx i ix) (l8 : 0 ≤ tx) (u8 : tx ≤ 1522) (l9 : 0 ≤ i) (u9 : i ≤ 399) (l10 : 0 ≤ ix) (u10 : ix ≤ 399) (l11 : 0 ≤ x11) (u11 : x11 ≤ 255) (e0 : S 411 ix = x11) : (True) ∧ (True) ∧ rxI59_7 S0 ws S tx i x11 i ∧ rxm59_7 S0 ws S tx i x11 i < rxm59_6 S0 ws S tx i ix := by
  exact ⟨trivial, trivial, ⟨by omega, hinv⟩, by unfold rxm59_6 rxm59_7; omega⟩
theorem rxg59_6_0 {X : (Nat → Int → Int) → Prop} {S0 : Nat → Int → Int} {ws : List Int} (hP : rxP59 S0 ws) : bx_obC rxL X S0 rxC59.2.2.1 (rxI59 S0 ws) (rxm59 S0 ws) 6 rxz59_6 rxo59_6_0 := by
  intro S S_p r r_p hinv hX hin hsm_ hseg
  obtain ⟨I0, I1, h0_, hr_, b_, f_, d_⟩ := bx_cl (evs := [(0, (0, 411), (10, 0), .inr (0, (11, 0)))]) (fvs := []) hseg (by decide +kernel) (by decide +kernel)
  have hinv : rxI59_6 S0 ws S (r 8) (r 9) (r 10) := hinv
  rw [← hr_ 8 (by decide), ← hr_ 9 (by decide), ← hr_ 10 (by decide)] at hinv
  obtain ⟨⟨l8, u8⟩, ⟨l9, u9⟩, ⟨l10, u10⟩, ⟨l11, u11⟩, -⟩ := b_
  obtain ⟨e0, w_⟩ := d_
  subst w_
  have g := rxc59_6_0 hP hin I0 hinv l8 u8 l9 u9 l10 u10 l11 u11 e0
  refine ⟨bx_narP_ok (l := []) g.1, bx_nfP_ok h0_ (fvs := []) (by decide +kernel) g.2.1, ?_, ?_⟩
  · show rxI59_7 S0 ws S_p (bx_val [(0, 0), (0, 0), (0, 0), (0, 0), (0, 0), (0, 0), (0, 0), (0, 0), (8, 0), (9, 0), (11, 0), (9, 0)] r_p 8) (bx_val [(0, 0), (0, 0), (0, 0), (0, 0), (0, 0), (0, 0), (0, 0), (0, 0), (8, 0), (9, 0), (11, 0), (9, 0)] r_p 9) (bx_val [(0, 0), (0, 0), (0, 0), (0, 0), (0, 0), (0, 0), (0, 0), (0, 0), (8, 0), (9, 0), (11, 0), (9, 0)] r_p 10) (bx_val [(0, 0), (0, 0), (0, 0), (0, 0), (0, 0), (0, 0), (0, 0), (0, 0), (8, 0), (9, 0), (11, 0), (9, 0)] r_p 11)
    rw [bx_val_x (n := 8) (e := (8, 0)) h0_ rfl, bx_val_x (n := 9) (e := (9, 0)) h0_ rfl, bx_val_x (n := 10) (e := (11, 0)) h0_ rfl, bx_val_x (n := 11) (e := (9, 0)) h0_ rfl]
    exact g.2.2.1
  · show rxm59_7 S0 ws S_p (bx_val [(0, 0), (0, 0), (0, 0), (0, 0), (0, 0), (0, 0), (0, 0), (0, 0), (8, 0), (9, 0), (11, 0), (9, 0)] r_p 8) (bx_val [(0, 0), (0, 0), (0, 0), (0, 0), (0, 0), (0, 0), (0, 0), (0, 0), (8, 0), (9, 0), (11, 0), (9, 0)] r_p 9) (bx_val [(0, 0), (0, 0), (0, 0), (0, 0), (0, 0), (0, 0), (0, 0), (0, 0), (8, 0), (9, 0), (11, 0), (9, 0)] r_p 10) (bx_val [(0, 0), (0, 0), (0, 0), (0, 0), (0, 0), (0, 0), (0, 0), (0, 0), (8, 0), (9, 0), (11, 0), (9, 0)] r_p 11) < rxm59_6 S0 ws S_p (r 8) (r 9) (r 10)
    rw [bx_val_x (n := 8) (e := (8, 0)) h0_ rfl, bx_val_x (n := 9) (e := (9, 0)) h0_ rfl, bx_val_x (n := 10) (e := (11, 0)) h0_ rfl, bx_val_x (n := 11) (e := (9, 0)) h0_ rfl, ← hr_ 8 (by decide), ← hr_ 9 (by decide), ← hr_ 10 (by decide)]
    exact g.2.2.2
theorem rxc59_8_0 {S0 : Nat → Int → Int} {ws : List Int} {S : Nat → Int → Int} {tx i cv i3 ch : Int} (hP : rxP59 S0 ws) (hin : bx_same rxL (bx_mdl rxC59.2.2.1) S0 S) (I0 : bx_Inv rxL S) (hinv : rxI59_8 S0 ws S tx i cv i3 ch) (l8 : 0 ≤ tx) (u8 : tx ≤ 1522) (l9 : 0 ≤ i) (u9 : i ≤ 399) (l10 : 0 ≤ cv) (u10 : cv ≤ 255) (l11 : 0 ≤ i3) (u11 : i3 ≤ 399) (l12 : 0 ≤ ch) (u12 : ch ≤ 255) (f0 : cv = ch) : (True) ∧ (True) ∧ rxI59_3 S0 ws S tx (i + 1) ∧ rxm59_3 S0 ws S tx (i + 1) < rxm59_8 S0 ws S tx i cv i3 ch := by
  obtain ⟨hi, hm⟩ := hinv
  have hl := rxLn_box (k := tx)
  exact ⟨trivial, trivial, hm, by unfold rxm59_8 rxm59_3; omega⟩
theorem rxg59_8_0 {X : (Nat → Int → Int) → Prop} {S0 : Nat → Int → Int} {ws : List Int} (hP : rxP59 S0 ws) : bx_obC rxL X S0 rxC59.2.2.1 (rxI59 S0 ws) (rxm59 S0 ws) 8 rxz59_8 rxo59_8_0 := by
  intro S S_p r r_p hinv hX hin hsm_ hseg
  obtain ⟨I0, I1, h0_, hr_, b_, f_, d_⟩ := bx_cl (evs := []) (fvs := [(2, (10, 0), (12, 0), (0, 0))]) hseg (by decide +kernel) (by decide +kernel)
  have hinv : rxI59_8 S0 ws S (r 8) (r 9) (r 10) (r 11) (r 12) := hinv
  rw [← hr_ 8 (by decide), ← hr_ 9 (by decide), ← hr_ 10 (by decide), ← hr_ 11 (by decide), ← hr_ 12 (by decide)] at hinv
  obtain ⟨⟨l8, u8⟩, ⟨l9, u9⟩, ⟨l10, u10⟩, ⟨l11, u11⟩, ⟨l12, u12⟩, -⟩ := b_
  obtain ⟨f0, -⟩ := f_
  have w_ := d_
  subst w_
  have g := rxc59_8_0 hP hin I0 hinv l8 u8 l9 u9 l10 u10 l11 u11 l12 u12 f0
  refine ⟨bx_narP_ok (l := []) g.1, bx_nfP_ok h0_ (fvs := []) (by decide +kernel) g.2.1, ?_, ?_⟩
  · show rxI59_3 S0 ws S_p (bx_val [(0, 0), (0, 0), (0, 0), (0, 0), (0, 0), (0, 0), (0, 0), (0, 0), (8, 0), (9, 1)] r_p 8) (bx_val [(0, 0), (0, 0), (0, 0), (0, 0), (0, 0), (0, 0), (0, 0), (0, 0), (8, 0), (9, 1)] r_p 9)
    rw [bx_val_x (n := 8) (e := (8, 0)) h0_ rfl, bx_val_x (n := 9) (e := (9, 1)) h0_ rfl]
    exact g.2.2.1
  · show rxm59_3 S0 ws S_p (bx_val [(0, 0), (0, 0), (0, 0), (0, 0), (0, 0), (0, 0), (0, 0), (0, 0), (8, 0), (9, 1)] r_p 8) (bx_val [(0, 0), (0, 0), (0, 0), (0, 0), (0, 0), (0, 0), (0, 0), (0, 0), (8, 0), (9, 1)] r_p 9) < rxm59_8 S0 ws S_p (r 8) (r 9) (r 10) (r 11) (r 12)
    rw [bx_val_x (n := 8) (e := (8, 0)) h0_ rfl, bx_val_x (n := 9) (e := (9, 1)) h0_ rfl, ← hr_ 8 (by decide), ← hr_ 9 (by decide), ← hr_ 10 (by decide), ← hr_ 11 (by decide), ← hr_ 12 (by decide)]
    exact g.2.2.2
theorem rxd59_8_0 {S0 : Nat → Int → Int} {ws : List Int} {S : Nat → Int → Int} {tx i cv i3 ch : Int} (hP : rxP59 S0 ws) (hin : bx_same rxL (bx_mdl rxC59.2.2.1) S0 S) (hin2 : bx_same rxL (bx_mdl rxC59.2.2.1) S S) (I0 : bx_Inv rxL S) (I1 : bx_Inv rxL S) (hinv : rxI59_8 S0 ws S tx i cv i3 ch) (l8 : 0 ≤ tx) (u8 : tx ≤ 1522) (l9 : 0 ≤ i) (u9 : i ≤ 399) (l10 : 0 ≤ cv) (u10 : cv ≤ 255) (l11 : 0 ≤ i3) (u11 : i3 ≤ 399) (l12 : 0 ≤ ch) (u12 : ch ≤ 255) (f0 : cv ≠ ch) : (True) ∧ rxPS59 S0 ws S (some 0) := by
  exact ⟨trivial, trivial⟩
theorem rxf59_8_0 {X : (Nat → Int → Int) → Prop} {S0 : Nat → Int → Int} {ws : List Int} (hP : rxP59 S0 ws) : bx_obE rxL X S0 rxC59.2.2.1 (rxI59 S0 ws) (rxPS59 S0 ws) 8 rxz59_8 rxe59_8_0 := by
  intro S S_p r r_p hinv hX hin hsm_ hseg
  obtain ⟨I0, I1, h0_, hr_, b_, f_, d_⟩ := bx_cl (evs := []) (fvs := [(3, (10, 0), (12, 0), (0, 0))]) hseg (by decide +kernel) (by decide +kernel)
  have hinv : rxI59_8 S0 ws S (r 8) (r 9) (r 10) (r 11) (r 12) := hinv
  rw [← hr_ 8 (by decide), ← hr_ 9 (by decide), ← hr_ 10 (by decide), ← hr_ 11 (by decide), ← hr_ 12 (by decide)] at hinv
  obtain ⟨⟨l8, u8⟩, ⟨l9, u9⟩, ⟨l10, u10⟩, ⟨l11, u11⟩, ⟨l12, u12⟩, -⟩ := b_
  obtain ⟨f0, -⟩ := f_
  have w_ := d_
  subst w_
  have g := rxd59_8_0 hP hin hsm_ I0 I1 hinv l8 u8 l9 u9 l10 u10 l11 u11 l12 u12 f0
  refine ⟨bx_narP_ok (l := []) g.1, ?_⟩
  show rxPS59 S0 ws S_p (some (bx_num r_p (.inr (0, (0, 0)))))
  rw [bx_xv_ok h0_]
  exact g.2
theorem rxgC59 {X : (Nat → Int → Int) → Prop} {S0 : Nat → Int → Int} {ws : List Int} (hP : rxP59 S0 ws) : bx_allI (fun i q => rxU59 q = true ∨ bx_allP (fun o => bx_obC rxL X S0 rxC59.2.2.1 (rxI59 S0 ws) (rxm59 S0 ws) i q.1 o) q.2.1) 0 rxY59 := ⟨Or.inr ⟨rxg59_0_0 hP, trivial⟩, Or.inl rfl, Or.inr ⟨rxg59_2_0 hP, trivial⟩, Or.inr ⟨rxg59_3_0 hP, trivial⟩, Or.inl rfl, Or.inr ⟨rxg59_5_0 hP, trivial⟩, Or.inr ⟨rxg59_6_0 hP, trivial⟩, Or.inl rfl, Or.inr ⟨rxg59_8_0 hP, trivial⟩, trivial⟩
theorem rxgE59 {X : (Nat → Int → Int) → Prop} {S0 : Nat → Int → Int} {ws : List Int} (hP : rxP59 S0 ws) : bx_allI (fun i q => rxU59 q = true ∨ bx_allP (fun E => bx_obE rxL X S0 rxC59.2.2.1 (rxI59 S0 ws) (rxPS59 S0 ws) i q.1 E) q.2.2) 0 rxY59 := ⟨Or.inr trivial, Or.inl rfl, Or.inr ⟨rxf59_2_0 hP, rxf59_2_1 hP, trivial⟩, Or.inr trivial, Or.inl rfl, Or.inr ⟨rxf59_5_0 hP, trivial⟩, Or.inr trivial, Or.inl rfl, Or.inr ⟨rxf59_8_0 hP, trivial⟩, trivial⟩
theorem rxu59 {PX : State → Prop} {Dg : va_G} {A : Nat → Prop} {ad xa : Nat → Nat} {l : Launch} {X : (Nat → Int → Int) → Prop} (hPX : rx_PXOK rxNW A PX) (hX : ∀ S S1 : Nat → Int → Int, X S → bx_same rxL (bx_mdl rxC59.2.2.1) S S1 → X S1) {av : Nat → Nat} (hstr : rx_hstr PX A ad av) {S0 : Nat → Int → Int} {ws : List Int} (hP : rxP59 S0 ws) : ∀ (i : Nat) (q : bx_HE), rxY59[i]? = some q → rxU59 q = true → ∀ {p : Program} {e : Env} {R : Room} {s : State} {m : MethodId} {args : Array Value} {below : List Frame} {meth : Method} {c : Code} {Q : State → Prop} {H0 : Heap}, rx_Fr rxG rxNW rxAO PX p s m args meth c rxM59 → (∀ q, H0.size ≤ q → A q) → H0 = s.heap → rxM59.2.2.2.2.2.2.1 ≤ R.cells → rxM59.2.2.2.2.2.2.2 ≤ R.slots → rxC59.2.2.2.1 ≤ R.frames → rxC59.2.2.2.1 * 40 ≤ R.locals → bx_Step p l e R s m args below meth c Q Dg rxL X vwCl A xa H0 ad rxM59 rxY59 (rxI59 S0 ws) (rxm59 S0 ws) S0 rxC59.2.2.1 i q := by
  intro i q hq hus p e R s m args below meth c Q H0 hF hA hH0 hmc hms hd hdl
  match i, hq with
  | 0, hq =>
    cases hq
    exact absurd (show false = true from hus) Bool.false_ne_true
  | 1, hq =>
    cases hq
    exact rx_stepL (av := av) (i_p := 2) (lo := 0) (hi := 999) (t := [.inr (0, (9, 0))]) hstr hPX hF hA hH0 hd hdl (by decide +kernel) rfl rfl (by decide) ⟨rfl, rfl⟩ rfl rfl (by decide) (rxs59_1 hP)
  | 2, hq =>
    cases hq
    exact absurd (show false = true from hus) Bool.false_ne_true
  | 3, hq =>
    cases hq
    exact absurd (show false = true from hus) Bool.false_ne_true
  | 4, hq =>
    cases hq
    exact rx_stepL (av := av) (i_p := 5) (lo := 0) (hi := 999) (t := [.inr (0, (10, 0))]) hstr hPX hF hA hH0 hd hdl (by decide +kernel) rfl rfl (by decide) ⟨rfl, rfl⟩ rfl rfl (by decide) (rxs59_4 hP)
  | 5, hq =>
    cases hq
    exact absurd (show false = true from hus) Bool.false_ne_true
  | 6, hq =>
    cases hq
    exact absurd (show false = true from hus) Bool.false_ne_true
  | 7, hq =>
    cases hq
    exact rx_stepC_ (av := av) (i_p := 8) (lo := 0) (hi := 255) (t := [.inr (0, (10, 0))]) hstr hPX hF hA hH0 hd hdl (by decide +kernel) rfl rfl (by decide) ⟨rfl, rfl⟩ rfl rfl (by decide) (rxs59_7 hP)
  | 8, hq =>
    cases hq
    exact absurd (show false = true from hus) Bool.false_ne_true
  | n + 9, hq => cases hq
theorem rxQ59 {PX : State → Prop} {Dg : va_G} {A : Nat → Prop} {ad xa : Nat → Nat} {l : Launch} {X : (Nat → Int → Int) → Prop} (hPX : rx_PXOK rxNW A PX) (hsl : ∀ s : State, PX s → ∀ o idx n : Nat, rxSl o idx = some n → ∃ tx : String, vk_R (rxNm o) idx tx (ad n) s)
    (hX : ∀ S S_p : Nat → Int → Int, X S → bx_same rxL (bx_mdl rxC59.2.2.1) S S_p → X S_p)
    (ih : ∀ (j2 : Nat) (ct2 : bx_Ct) (M2 : rx_Mt), ct2 ∈ rxCnE j2 → ct2.2.2.2.1 + 1 ≤ rxC59.2.2.2.1 → rxT.2.2.2.2.2 j2 = some M2 → bx_Con rxG rxNW rxAO PX Dg rxL X vwCl A ad l M2 ct2) {av : Nat → Nat} (hstr : rx_hstr PX A ad av) : bx_ConP rxG rxNW rxAO PX Dg rxL X vwCl A ad l rxM59 rxC59 rxP59 rxPS59 :=
  rxQof (xa := xa) (Cn := rxCnE) (f := 30000) (j := 59) (tab := rxY59) (us := rxU59) hPX hsl hX ih rfl rxYc59 rxI59 rxm59
    (fun S0 ws r I0 I ht0 ht as he he1 hX0 hI0 hP hs ha => by
      have e := he.symm.trans (show bx_ent0 rxNP rxC59.1 bx_I0 [] = some ([(0, 0), (0, 0), (0, 0), (0, 0), (0, 0), (0, 0), (0, 0), (0, 0), (0, 1522)], [(((8, 0), 1000021), .inl none)], [.inr (3, (0, 412)), .inr (3, (8, 0))]) from rfl)
      cases e
      subst ha
      have h0 : r 0 = 0 := hs.1
      show rxI59_0 S0 _ S0 (r 8)
      refine ⟨rfl, ?_⟩
      simp only [List.map_cons, List.map_nil, bx_xv_ok h0]
      rfl)
    (fun S0 ws hP => rxu59 (xa := xa) hPX hX hstr hP) (fun S0 ws hP => rxgC59 hP) (fun S0 ws hP => rxgE59 hP)
end
