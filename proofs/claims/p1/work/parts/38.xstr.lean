/-! A TEXT'S CONSTANT, ITS LENGTH -/
/-- the text at q, of N bytes f at av; and what String says of all texts -/
def rx_SX (A : Nat → Prop) (q av N : Nat) (f : Nat → Value) (U : State) : Prop := va_O "java/lang/String" q A U U.heap ∧ va_OF "java/lang/String" "coder" "B" (.int 0) q A U U.heap ∧ va_OF "java/lang/String" "value" "[B" (.ref av) q A U U.heap ∧ va_T .byte av N f A U U.heap ∧ va_Z "java/lang/String" "COMPACT_STRINGS" "Z" (.int 1) A U U.heap
theorem rx_SX.to {A : Nat → Prop} {q av N : Nat} {f : Nat → Value} {u U : State} (h : rx_SX A q av N f u) (hvm : u.vm.Alike U.vm) (hq : ∀ a : Nat, a < u.heap.size → ¬ A a → U.heap[a]? = u.heap[a]?) : rx_SX A q av N f U :=
  ⟨(h.1.moved hvm).kept hq, (h.2.1.moved hvm).kept hq, (h.2.2.1.moved hvm).kept hq, (h.2.2.2.1.moved hvm).kept hq, (h.2.2.2.2.moved hvm).kept hq⟩
theorem rx_SX.narrow {A B : Nat → Prop} {q av N : Nat} {f : Nat → Value} {U : State} (h : rx_SX A q av N f U) (hAB : ∀ q, B q → A q) : rx_SX B q av N f U :=
  ⟨h.1.narrow hAB, h.2.1.narrow hAB, h.2.2.1.narrow hAB, h.2.2.2.1.narrow hAB, h.2.2.2.2.narrow hAB⟩
theorem rx_sd_0 : decode cJ0_coder_7d493 0 = .ok (.getstatic 38, 3) := by decide +kernel
theorem rx_sd_3 : decode cJ0_coder_7d493 3 = .ok (.ifCond .eq 10, 3) := by decide +kernel
theorem rx_sd_6 : decode cJ0_coder_7d493 6 = .ok (.aload_n 0, 1) := by decide +kernel
theorem rx_sd_7 : decode cJ0_coder_7d493 7 = .ok (.getfield 15, 3) := by decide +kernel
theorem rx_sd_10 : decode cJ0_coder_7d493 10 = .ok (.goto 4, 3) := by decide +kernel
theorem rx_sd_14 : decode cJ0_coder_7d493 14 = .ok (.ireturn, 1) := by decide +kernel
theorem rx_ld_0 : decode cJ0_length_8abf5 0 = .ok (.aload_n 0, 1) := by decide +kernel
theorem rx_ld_1 : decode cJ0_length_8abf5 1 = .ok (.getfield 9, 3) := by decide +kernel
theorem rx_ld_4 : decode cJ0_length_8abf5 4 = .ok (.arraylength, 1) := by decide +kernel
theorem rx_ld_5 : decode cJ0_length_8abf5 5 = .ok (.aload_n 0, 1) := by decide +kernel
theorem rx_ld_6 : decode cJ0_length_8abf5 6 = .ok (.invokevirtual 335, 3) := by decide +kernel
theorem rx_ld_9 : decode cJ0_length_8abf5 9 = .ok (.ishr, 1) := by decide +kernel
theorem rx_ld_10 : decode cJ0_length_8abf5 10 = .ok (.ireturn, 1) := by decide +kernel
def rxWcod : List Jvm.Cond := [Jvm.Cond.code yJ0_coder_7d493 cJ0_coder_7d493 1 (some .byte), Jvm.Cond.fieldLink "java/lang/String" 38 "java/lang/String" "COMPACT_STRINGS" "Z", Jvm.Cond.fieldLink "java/lang/String" 15 "java/lang/String" "coder" "B"]
def rxWlen : List Jvm.Cond := [Jvm.Cond.code yJ0_length_8abf5 cJ0_length_8abf5 1 (some .int), Jvm.Cond.fieldLink "java/lang/String" 9 "java/lang/String" "value" "[B", Jvm.Cond.code yJ0_coder_7d493 cJ0_coder_7d493 1 (some .byte), Jvm.Cond.fieldLink "java/lang/String" 38 "java/lang/String" "COMPACT_STRINGS" "Z", Jvm.Cond.fieldLink "java/lang/String" 15 "java/lang/String" "coder" "B",
  Jvm.Cond.methodLink "java/lang/String" 335 yJ0_coder_7d493, Jvm.Cond.instanceMethod yJ0_coder_7d493, Jvm.Cond.selects "java/lang/String" yJ0_coder_7d493 yJ0_coder_7d493, Jvm.Cond.initialized "java/lang/String"]
section RXS
variable {l : Launch} {A : Nat → Prop} {q av N : Nat} {f : Nat → Value}
theorem rx_coder_met : Met l yJ0_coder_7d493 rxWcod ({ frames := 0, cells := 0, slots := 0, locals := 0 }) (va_Pc [.ref q] (fun U => rx_SX A q av N f U)) (va_Qi (fun (r : Int32) (_ : Unit) => r = 0) (fun _ _ => True) A) 0 0 A := by
  refine Met.ofW (cc := cJ0_coder_7d493) (maxL := 1) (ret := some .byte) (by decide) rfl ?_
  intro p e s m args below meth c s₁ B hml hv
  obtain ⟨rfl, hX⟩ := hv
  obtain ⟨x1, x2, x3, x4, x5⟩ := hX
  have hx := B.exec
  have hb := B.bytes
  have hr := B.returns
  have hts := atoms_spec (ws := rxWcod) B.pre
  have hown : s.vm.findClass "java/lang/String" = some m.cls := findClass_of_methodNamed B.named
  have hlocks := B.notSynchronized
  have hS : va_S A s.heap s.heap [] := va_S.rf
  have hl := lv_entry ([.ref q]) (n := 1) (Nat.le_of_ble_eq_true rfl)
  rw [lg_entry_eq]
  generalize (lg_sl ([.ref q]) ++ List.replicate (1 - (lg_sl ([.ref q])).length) Slot.unset).toArray = ls at hl ⊢
  have hl : lv_has ls 1 [(0, .ref q)] := hl
  refine va_gets hx hb x5 hS hown (hts _ (List.mem_of_getElem? (i := 1) rfl)) (fun _ h => h) rx_sd_0 ?_
  refine lv_if_eq (tgt := 13) hx hb rx_sd_3 rfl (fun h => absurd h (by decide)) (fun _ => ?_)
  refine lv_aload_n hx hb rx_sd_6 rfl (lv_at hl 0 rfl) ?_
  refine vk_getf hx hb x2 hS hown (hts _ (List.mem_of_getElem? (i := 2) rfl)) (fun _ h => h) rx_sd_7 ?_
  refine lv_goto (tgt := 14) hx hb rx_sd_10 rfl ?_
  exact W.zret hx hb hr rfl (fun t ht hW => ⟨⟨0, (), rfl, rfl, trivial⟩, hS.F ht⟩) hS.2.2 rx_sd_14
theorem rx_length_met (hN : N < 2 ^ 31) : Met l yJ0_length_8abf5 rxWlen ({ frames := 1, cells := 0, slots := 0, locals := 20 }) (va_Pc [.ref q] (fun U => rx_SX A q av N f U)) (va_Qi (fun (r : Int32) (_ : Unit) => r = nI N) (fun _ _ => True) A) 0 0 A := by
  refine Met.ofW (cc := cJ0_length_8abf5) (maxL := 1) (ret := some .int) (by decide) rfl ?_
  intro p e s m args below meth c s₁ B hml hv
  obtain ⟨rfl, hX⟩ := hv
  obtain ⟨x1, x2, x3, x4, x5⟩ := id hX
  have hx := B.exec
  have hb := B.bytes
  have hr := B.returns
  have hts := atoms_spec (ws := rxWlen) B.pre
  have hown : s.vm.findClass "java/lang/String" = some m.cls := findClass_of_methodNamed B.named
  have hlocks := B.notSynchronized
  have hS : va_S A s.heap s.heap [] := va_S.rf
  have hl := lv_entry ([.ref q]) (n := 1) (Nat.le_of_ble_eq_true rfl)
  rw [lg_entry_eq]
  generalize (lg_sl ([.ref q]) ++ List.replicate (1 - (lg_sl ([.ref q])).length) Slot.unset).toArray = ls at hl ⊢
  have hl : lv_has ls 1 [(0, .ref q)] := hl
  refine lv_aload_n hx hb rx_ld_0 rfl (lv_at hl 0 rfl) ?_
  refine vk_getf hx hb x3 hS hown (hts _ (List.mem_of_getElem? (i := 1) rfl)) (fun _ h => h) rx_ld_1 ?_
  refine va_tlen (v := nI N) hx hb x4 hS rfl rx_ld_4 ?_
  refine lv_aload_n hx hb rx_ld_5 rfl (lv_at hl 0 rfl) ?_
  have hGI : GoodIn rxWlen rxWcod := goodIn_p _ [2] rfl (by decide +kernel)
  have S : CallFix p m c cJ0_length_8abf5 1 s [Value.ref q].toArray rxWlen "java/lang/String" := ⟨hx, hb, hml, hown, hts⟩
  have hws : ∀ w ∈ rxWcod, ∀ (a' : Array Value) (U : State), s.WarmedH U.vm → w.before a' U = true := pay_in hts hGI
  have hdesc : ∀ sig, parseMethodDescriptor yJ0_coder_7d493.desc = some sig → 0 = sig.parameters.length := fun sig h => by
    have h2 : (parseMethodDescriptor yJ0_coder_7d493.desc).map (fun d => d.parameters.length) = some 0 := by decide +kernel
    rw [h] at h2
    exact (Option.some.inj h2).symm
  obtain ⟨cell, y1, y2, y3, -⟩ := x1
  have hpV : PreV s s.heap "java/lang/String" q (va_Pc [.ref q] (fun U => rx_SX A q av N f U)) [] := ⟨fun a U g mk h => ⟨h.1, h.2.to (Vm.Alike.refl U.vm) (fun _ _ _ => rfl)⟩, ⟨cell, y1, y2, y3⟩, fun U hU hW => ⟨rfl, hX.to hW.alike (fun a _ _ => by rw [hU])⟩⟩
  have hrun := va_runV (g := F0 m 6 ls [.ref q, .int (nI N)]) (rest := [.int (nI N)]) (cells := 0) (slots := 0) (below := below) (meth := meth) (e := e) (locs := []) (n := 0) (R := { frames := 1, cells := 0, slots := 0, locals := 20 }) S (rx_coder_met (l := l) (A := A) (q := q) (av := av) (N := N) (f := f)) ⟨⟨rfl, rfl, Nat.le_refl _, Nat.le_refl _, hws, List.mem_cons_self, hts _ (List.mem_of_getElem? (i := 2) rfl), hts _ (List.mem_of_getElem? (i := 8) rfl), ⟨by decide +kernel, by decide +kernel⟩, hdesc, hts _ (List.mem_of_getElem? (i := 5) rfl)⟩, hts _ (List.mem_of_getElem? (i := 6) rfl), hts _ (List.mem_of_getElem? (i := 7) rfl)⟩ hpV rfl rfl hl.1 rfl (lv_room (Nat.le_of_ble_eq_true rfl)) rx_ld_6 ⟨Nat.le_refl _, Nat.le_refl _⟩
  refine va_calli hrun hS (fun _ _ h => h) (fun _ h => h) fun r u t H1 locs1 ht hvm hp _ _ _ hS1 => ?_
  subst hp
  refine lv_ishr hx hb rx_ld_9 ?_
  exact W.iret hx hb hr (fun t ht hW => ⟨⟨_, (), rfl, sc_shr0 hN, trivial⟩, hS1.F ht⟩) hS1.2.2 rx_ld_10
end RXS
section RXR
variable {G NW : List Jvm.Cond} {AO : List String} {cl : List vw_C} {nm : Nat → String} {A : Nat → Prop} {xa : Nat → Nat} {PX : State → Prop} {l : Launch} {D : va_G}
variable {p : Program} {e : Env} {R : Room} {s : State} {m : MethodId} {args : Array Value} {below : List Frame} {meth : Method} {c : Code} {Q : State → Prop} {H0 H : Heap} {locs : List Loc} {ls : Array Slot} {r : Nat → Int} {ad : Nat → Nat}
variable {M : rx_Mt} {z : rx_Z} {zs : List rx_Z} {d idx : Nat}
theorem rx_x_str_ok {sl : Nat → Nat → Option Nat} {tx : String} {i : Nat} (hF : rx_Fr G NW AO PX p s m args meth c M) (hn : nm M.1 = M.2.2.2.2.1.cls) (hi : sl M.1 idx = some i) (hZ : vk_R (nm M.1) idx tx (xa i) s)
    (hdg : decode M.2.1 (rx_zpc z) = .ok (.ldc idx, 2)) (hR : rx_R D cl A s xa M.2.2.1 H0 z r ad H locs ls) (hz : rx_x_str sl M.1 idx z = some zs) (K : ∀ z' ∈ zs, rx_G p l e R s m args below meth c Q D cl A xa M.2.2.1 H0 z.1.length z.2.2.1.length r ad z') :
    W p l e R s m args below meth c H locs z.2.2.2.1 z.2.2.2.2.1 Q (F0 m (rx_zpc z) ls ((rx_zst z).map (rx_iv r ad xa))) := by
  unfold rx_x_str at hz
  rw [hi] at hz
  cases hz
  obtain ⟨hx, hb, hr, hml, hown, hlk, hts, -⟩ := id hF
  rw [hn] at hZ
  refine va_ldcS hx hb hown hZ hdg ?_
  refine rx_push (v := .inr (2, (0, (i : Int)))) (d := 2) hR ?_ (rx_sc0 hR 2 _) (K _ List.mem_cons_self)
  show Value.ref (xa ((i : Int).toNat)) = _
  rw [Int.toNat_natCast]
theorem rx_x_slen_ok {len : List Nat} (hGG : ∀ w ∈ G, goodWord w = true) (hF : rx_Fr G NW AO PX p s m args meth c M) (hn : nm M.1 = M.2.2.2.2.1.cls) (hd : d ≤ R.frames) (hdl : d * 40 ≤ R.locals) (hmc : z.2.2.2.1 ≤ R.cells) (hms : z.2.2.2.2.1 ≤ R.slots) (hH0 : H0 = s.heap)
    (hSX : ∀ (i n : Nat), 1 ≤ i → len[i]? = some n → n < 2 ^ 31 ∧ ∃ (av : Nat) (f : Nat → Value), rx_SX A (xa i) av n f s) (hw : Jvm.Cond.methodLink (nm M.1) idx yJ0_length_8abf5 ∈ G ∧ Jvm.Cond.instanceMethod yJ0_length_8abf5 ∈ G ∧ Jvm.Cond.selects "java/lang/String" yJ0_length_8abf5 yJ0_length_8abf5 ∈ G ∧ ∀ w ∈ rxWlen, w ∈ G)
    (hdg : decode M.2.1 (rx_zpc z) = .ok (.invokevirtual idx, 3)) (hR : rx_R D cl A s xa M.2.2.1 H0 z r ad H locs ls) (hz : rx_x_slen len d z = some zs) (K : ∀ z' ∈ zs, rx_G p l e R s m args below meth c Q D cl A xa M.2.2.1 H0 z.1.length z.2.2.1.length r ad z') :
    W p l e R s m args below meth c H locs z.2.2.2.1 z.2.2.2.2.1 Q (F0 m (rx_zpc z) ls ((rx_zst z).map (rx_iv r ad xa))) := by
  unfold rx_x_slen at hz
  split at hz
  · rename_i y i t hstk
    split at hz
    · rename_i n hlen
      obtain ⟨h1, hz⟩ := rx_if_ok hz
      simp only [Bool.and_eq_true, decide_eq_true_eq] at h1
      obtain ⟨g1, g2, g3⟩ := h1
      cases hz
      obtain ⟨hn31, av, f, hX⟩ := hSX i.toNat n (by omega) hlen
      have hst := rx_stsc hR
      rw [hstk] at hst ⊢
      obtain ⟨hx, hb, hr, hml, hown, hlk, hts, -⟩ := id hF
      rw [hn] at hw
      obtain ⟨w1, w2, w3, w4⟩ := hw
      obtain ⟨ws, tys, hK, hP, hD, hS0, hl, hc⟩ := id hR.2.2.2.1
      have hS : va_S A s.heap H locs := hH0 ▸ hS0
      have hGI : GoodIn G rxWlen := fun w hw2 => ⟨w4 w hw2, good_of_word (hGG _ (w4 w hw2))⟩
      have S : CallFix p m c M.2.1 M.2.2.1 s args G M.2.2.2.2.1.cls := ⟨hx, hb, hml, hown, hts⟩
      have hws : ∀ w ∈ rxWlen, ∀ (a' : Array Value) (U : State), s.WarmedH U.vm → w.before a' U = true := pay_in hts hGI
      have hdesc : ∀ sig, parseMethodDescriptor yJ0_length_8abf5.desc = some sig → 0 = sig.parameters.length := fun sig h => by
        have h2 : (parseMethodDescriptor yJ0_length_8abf5.desc).map (fun d => d.parameters.length) = some 0 := by decide +kernel
        rw [h] at h2
        exact (Option.some.inj h2).symm
      obtain ⟨cell, y1, y2, y3, y4⟩ := id hX.1
      have hpV : PreV s H "java/lang/String" (xa i.toNat) (va_Pc [.ref (xa i.toNat)] (fun U => rx_SX (fun _ => False) (xa i.toNat) av n f U)) [] := ⟨fun a U g mk h => ⟨h.1, h.2.to (Vm.Alike.refl U.vm) (fun _ _ _ => rfl)⟩, ⟨cell, by rw [hS.2.1 _ (Array.getElem?_eq_some_iff.mp y1).1 y4]; exact y1, y2, y3⟩, fun U hU hW => ⟨rfl, (hX.to hW.alike (fun a h1 h2 => by rw [hU]; exact hS.2.1 a h1 h2)).narrow (fun _ h => h.elim)⟩⟩
      have hrest : 2 * (F0 m (rx_zpc z) ls (.ref (xa i.toNat) :: t.map (rx_iv r ad xa))).monitorRoom + ((t.map (rx_iv r ad xa)).map fun v => v.category).sum ≤ 8 := lv_room (by rw [rx_cats_sum]; exact g3)
      have hlsz : ls.size = M.2.2.1 := (rx_lvh hR).1
      have hrun := va_runV (g := F0 m (rx_zpc z) ls (.ref (xa i.toNat) :: t.map (rx_iv r ad xa))) (rest := t.map (rx_iv r ad xa)) (cells := z.2.2.2.1) (slots := z.2.2.2.2.1) (below := below) (meth := meth) (e := e) (locs := locs) (n := 0) S (rx_length_met (l := l) (A := fun _ => False) (q := xa i.toNat) (av := av) (N := n) (f := f) hn31) ⟨⟨rfl, rfl, Nat.le_trans g2 hd, (by show 8 + (1 + 11) + 20 ≤ R.locals; omega), hws, List.mem_cons_self, hts _ (w4 _ (List.mem_of_getElem? (i := 0) rfl)), hts _ (w4 _ (List.mem_of_getElem? (i := 8) rfl)), ⟨by decide +kernel, by decide +kernel⟩, hdesc, hts _ w1⟩, hts _ w2, hts _ w3⟩ hpV rfl rfl hlsz rfl hrest hdg ⟨hmc, hms⟩
      show W p l e R s m args below meth c H locs z.2.2.2.1 z.2.2.2.2.1 Q (F0 m (rx_zpc z) ls (.ref (xa i.toNat) :: t.map (rx_iv r ad xa)))
      refine va_calli hrun hS0 (fun _ _ h => h.elim) (fun _ h => h.elim) fun r1 u tt H1 locs1 htt hvm hp _ hsz hkeep hS1 => ?_
      subst hp
      have hP1 : va_P D cl ws H1 := fun i q hq => (hP i q hq).kept (hkeep q.1 (hP i q hq).lt (fun h => h))
      have hR1 : rx_R D cl A s xa M.2.2.1 H0 z r ad H1 locs1 ls := ⟨hR.1, hR.2.1, hR.2.2.1, ⟨ws, tys, hK, hP1, hD, hS1, hl, hc⟩, hR.2.2.2.2⟩
      refine rx_at (K _ List.mem_cons_self) rx_same.rf rx_sameA.rf (rx_R_nx hR1 (fun v hv => ?_)) rfl rfl rfl ?_
      · rcases List.mem_cons.mp hv with h | h
        · subst h
          exact rx_sc0 hR 0 _
        · exact hst v (List.mem_cons_of_mem _ h)
      · show rx_iv r ad xa (rx_n (n : Int)) :: t.map (rx_iv r ad xa) = _
        rw [rx_n_iv hR.1, Int32.ofInt_eq_ofNat]
        rfl
    · cases hz
  · cases hz
end RXR
