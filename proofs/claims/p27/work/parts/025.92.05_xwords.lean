section
noncomputable def ry_xtP (o idx k : Nat) : Prop := (k = 10 → Jvm.Cond.methodLink (ryNm o) idx objectInit ∈ ryG) ∧ (k = 12 → Jvm.Cond.methodLink (ryNm o) idx yJ7_fill_53178 ∈ ryG) ∧ (k = 10 ∨ k = 12)
theorem ryXtO0 : ∀ p ∈ ryXtL0, ry_xtP 0 p.1 p.2 := ry_all_cons (⟨fun _ => (ry_in (ry_at2 (n := 234) rfl) rfl), fun h => absurd (show (10 : Nat) = 12 from h) (by decide), Or.inl rfl⟩) (ry_all_nil)
theorem ryXtO1 : ∀ p ∈ ryXtL1, ry_xtP 1 p.1 p.2 := ry_all_cons (⟨fun _ => (ry_in (ry_at2 (n := 196) rfl) rfl), fun h => absurd (show (10 : Nat) = 12 from h) (by decide), Or.inl rfl⟩) (ry_all_nil)
theorem ryXtO2 : ∀ p ∈ ryXtL2, ry_xtP 2 p.1 p.2 := ry_all_cons (⟨fun _ => (ry_in (ry_at1 (n := 73) rfl) rfl), fun h => absurd (show (10 : Nat) = 12 from h) (by decide), Or.inl rfl⟩) (ry_all_nil)
theorem ryXtO3 : ∀ p ∈ ryXtL3, ry_xtP 3 p.1 p.2 := ry_all_cons (⟨fun _ => (ry_in (ry_at2 (n := 87) rfl) rfl), fun h => absurd (show (10 : Nat) = 12 from h) (by decide), Or.inl rfl⟩) (ry_all_nil)
theorem ryXtO4 : ∀ p ∈ ryXtL4, ry_xtP 4 p.1 p.2 := ry_all_cons (⟨fun _ => (ry_in (ry_at2 (n := 147) rfl) rfl), fun h => absurd (show (10 : Nat) = 12 from h) (by decide), Or.inl rfl⟩) (ry_all_nil)
theorem ryXtO5 : ∀ p ∈ ryXtL5, ry_xtP 5 p.1 p.2 := ry_all_cons (⟨fun _ => (ry_in (ry_at1 (n := 43) rfl) rfl), fun h => absurd (show (10 : Nat) = 12 from h) (by decide), Or.inl rfl⟩) (ry_all_nil)
theorem ryXtO6 : ∀ p ∈ ryXtL6, ry_xtP 6 p.1 p.2 := ry_all_cons (⟨fun _ => (ry_in (ry_at1 (n := 120) rfl) rfl), fun h => absurd (show (10 : Nat) = 12 from h) (by decide), Or.inl rfl⟩) (ry_all_nil)
theorem ryXtO7 : ∀ p ∈ ryXtL7, ry_xtP 7 p.1 p.2 := ry_all_cons (⟨fun _ => (ry_in (ry_at2 (n := 7) rfl) rfl), fun h => absurd (show (10 : Nat) = 12 from h) (by decide), Or.inl rfl⟩) (ry_all_nil)
theorem ryXtO8 : ∀ p ∈ ryXtL8, ry_xtP 8 p.1 p.2 := ry_all_cons (⟨fun _ => (ry_in (ry_at2 (n := 59) rfl) rfl), fun h => absurd (show (10 : Nat) = 12 from h) (by decide), Or.inl rfl⟩) (ry_all_nil)
theorem ryXtO9 : ∀ p ∈ ryXtL9, ry_xtP 9 p.1 p.2 := ry_all_cons (⟨fun _ => (ry_in (ry_at1 (n := 101) rfl) rfl), fun h => absurd (show (10 : Nat) = 12 from h) (by decide), Or.inl rfl⟩) (ry_all_cons (⟨fun h => absurd (show (12 : Nat) = 10 from h) (by decide), fun _ => (ry_in (ry_at1 (n := 106) rfl) rfl), Or.inr rfl⟩) (ry_all_nil))
theorem ryXtO10 : ∀ p ∈ ryXtL10, ry_xtP 10 p.1 p.2 := ry_all_cons (⟨fun _ => (ry_in (ry_at1 (n := 35) rfl) rfl), fun h => absurd (show (10 : Nat) = 12 from h) (by decide), Or.inl rfl⟩) (ry_all_nil)
theorem ryXtO11 : ∀ p ∈ ryXtL11, ry_xtP 11 p.1 p.2 := ry_all_cons (⟨fun _ => (ry_in (ry_at1 (n := 27) rfl) rfl), fun h => absurd (show (10 : Nat) = 12 from h) (by decide), Or.inl rfl⟩) (ry_all_nil)
theorem ryXtO12 : ∀ p ∈ ryXtL12, ry_xtP 12 p.1 p.2 := ry_all_cons (⟨fun _ => (ry_in (ry_at7 (n := 36) rfl) rfl), fun h => absurd (show (10 : Nat) = 12 from h) (by decide), Or.inl rfl⟩) (ry_all_nil)
theorem ryXt_ok : ∀ o idx k : Nat, ry_lku (ryXtL o) idx = some k → ry_xtP o idx k := fun o idx k h => by
  have h2 := ry_lku_mem h
  unfold ryXtL at h2
  split at h2
  · exact ryXtO0 _ h2
  · exact ryXtO1 _ h2
  · exact ryXtO2 _ h2
  · exact ryXtO3 _ h2
  · exact ryXtO4 _ h2
  · exact ryXtO5 _ h2
  · exact ryXtO6 _ h2
  · exact ryXtO7 _ h2
  · exact ryXtO8 _ h2
  · exact ryXtO9 _ h2
  · exact ryXtO10 _ h2
  · exact ryXtO11 _ h2
  · exact ryXtO12 _ h2
  · exact absurd h2 List.not_mem_nil
theorem ryW_i1 : Jvm.Cond.instanceMethod objectInit ∈ ryG := (ry_in (ry_at1 (n := 28) rfl) rfl)
theorem ryW_i2 : Jvm.Cond.code objectInit ⟨#[0xb1]⟩ 1 none ∈ ryG := (ry_in (ry_at1 (n := 29) rfl) rfl)
theorem ryW_f1 : Jvm.Cond.static yJ7_fill_53178 ∈ ryG := (ry_in (ry_at1 (n := 107) rfl) rfl)
theorem ryW_f2 : Jvm.Cond.initialized "java/util/Arrays" ∈ ryG := (ry_in (ry_at1 (n := 6) rfl) rfl)
theorem ryW_f3 : Jvm.Cond.code yJ7_fill_53178 cJ7_fill_53178 4 none ∈ ryG := (ry_in (ry_at1 (n := 108) rfl) rfl)
end
section
theorem ry_set_self {α : Type} {x : α} : ∀ {l : List α} {k : Nat}, l[k]? = some x → l.set k x = l
  | [], _, h => by cases h
  | a :: l, 0, h => by
    cases h
    rfl
  | a :: l, k + 1, h => by
    rw [List.set_cons_succ, ry_set_self (l := l) (k := k) h]
noncomputable def ry_fl (x : Int32) (f : Nat → Int32) (i : Nat) : Nat → Int32 := fun j => if j < i then x else f j
theorem ry_fl_0 {x : Int32} {f : Nat → Int32} : ry_fl x f 0 = f := funext fun j => if_neg (Nat.not_lt_zero j)
theorem ry_fl_succ {x : Int32} {f : Nat → Int32} {i : Nat} : upd (ry_fl x f i) i x = ry_fl x f (i + 1) := by
  funext j
  unfold upd ry_fl
  by_cases h : j = i
  · rw [if_pos h, if_pos (by omega)]
  · rw [if_neg h]
    by_cases h2 : j < i
    · rw [if_pos h2, if_pos (by omega)]
    · rw [if_neg h2, if_neg (by omega)]
theorem ry_fd_0 : decode cJ7_fill_53178 0 = .ok (.iconst 0, 1) := by decide +kernel
theorem ry_fd_1 : decode cJ7_fill_53178 1 = .ok (.istore_n 2, 1) := by decide +kernel
theorem ry_fd_2 : decode cJ7_fill_53178 2 = .ok (.aload_n 0, 1) := by decide +kernel
theorem ry_fd_3 : decode cJ7_fill_53178 3 = .ok (.arraylength, 1) := by decide +kernel
theorem ry_fd_4 : decode cJ7_fill_53178 4 = .ok (.istore_n 3, 1) := by decide +kernel
theorem ry_fd_5 : decode cJ7_fill_53178 5 = .ok (.iload_n 2, 1) := by decide +kernel
theorem ry_fd_6 : decode cJ7_fill_53178 6 = .ok (.iload_n 3, 1) := by decide +kernel
theorem ry_fd_7 : decode cJ7_fill_53178 7 = .ok (.if_icmp .ge 13, 3) := by decide +kernel
theorem ry_fd_10 : decode cJ7_fill_53178 10 = .ok (.aload_n 0, 1) := by decide +kernel
theorem ry_fd_11 : decode cJ7_fill_53178 11 = .ok (.iload_n 2, 1) := by decide +kernel
theorem ry_fd_12 : decode cJ7_fill_53178 12 = .ok (.iload_n 1, 1) := by decide +kernel
theorem ry_fd_13 : decode cJ7_fill_53178 13 = .ok (.iastore, 1) := by decide +kernel
theorem ry_fd_14 : decode cJ7_fill_53178 14 = .ok (.iinc 2 1, 3) := by decide +kernel
theorem ry_fd_17 : decode cJ7_fill_53178 17 = .ok (.goto (-12), 3) := by decide +kernel
theorem ry_fd_20 : decode cJ7_fill_53178 20 = .ok (.return_, 1) := by decide +kernel
section RYL
variable {p : Program} {l : Launch} {e : Env} {R : Room} {s : State} {m : MethodId} {args : Array Value} {below : List Frame} {meth : Method} {c : Code} {Q : State → Prop} {H0 H : Heap} {locs : List Loc} {ls : Array Slot}
variable {D : va_G} {cl : List vw_C} {A : Nat → Prop} {ws : va_W} {tys : List (ClassId × FieldType)} {k n t0 a : Nat} {cA : ClassId} {f : Nat → Int32} {x : Int32} {cells slots : Nat}
theorem ry_fill_loop (hx : p.tables.exec = Jvm.exec) (hb : c.code = cJ7_fill_53178) (hK : va_K D cl tys s) (hw : ws[k]? = some (a, .inl (cA, n, .inl f))) (ht : tys[t0]? = some (cA, .int)) (hn : n < 2000000000)
    (fin : ∀ (H : Heap) (locs : List Loc) (ls : Array Slot), va_P D cl (ws.set k (a, .inl (cA, n, .inl (ry_fl x f n)))) H → va_D A (ws.set k (a, .inl (cA, n, .inl (ry_fl x f n)))) → va_S A H0 H locs → W p l e R s m args below meth c H locs cells slots Q (F0 m 20 ls [])) :
    ∀ (d i : Nat), i + d = n → ∀ (H : Heap) (locs : List Loc) (ls : Array Slot), lv_has ls 4 [(2, .int (nI i)), (3, .int (nI n)), (0, .ref a), (1, .int x)] → va_P D cl (ws.set k (a, .inl (cA, n, .inl (ry_fl x f i)))) H → va_D A (ws.set k (a, .inl (cA, n, .inl (ry_fl x f i)))) → va_S A H0 H locs → W p l e R s m args below meth c H locs cells slots Q (F0 m 5 ls []) := by
  intro d
  induction d with
  | zero =>
    intro i hi H locs ls hl hP hD hS
    have hi : i = n := hi
    subst hi
    refine lv_iload_n hx hb ry_fd_5 rfl (lv_at hl 0 rfl) ?_
    refine lv_iload_n hx hb ry_fd_6 rfl (lv_at hl 1 rfl) ?_
    exact lv_icmp_ge (tgt := 20) hx hb ry_fd_7 rfl (fun _ => fin H locs ls hP hD hS) (fun h => absurd (Int32.le_refl _) h)
  | succ d ih =>
    intro i hi H locs ls hl hP hD hS
    have hlt : i < n := by omega
    have hi31 : i < 2 ^ 31 := by omega
    have hn31 : n < 2 ^ 31 := by omega
    have hk : k < ws.length := (List.getElem?_eq_some_iff.mp hw).1
    refine lv_iload_n hx hb ry_fd_5 rfl (lv_at hl 0 rfl) ?_
    refine lv_iload_n hx hb ry_fd_6 rfl (lv_at hl 1 rfl) ?_
    refine lv_icmp_ge (tgt := 20) hx hb ry_fd_7 rfl (fun h => ?_) (fun _ => ?_)
    · rw [Int32.le_iff_toInt_le, nI_toInt hn31, nI_toInt hi31] at h
      omega
    · refine lv_aload_n hx hb ry_fd_10 rfl (lv_at hl 2 rfl) ?_
      refine lv_iload_n hx hb ry_fd_11 rfl (lv_at hl 0 rfl) ?_
      refine lv_iload_n hx hb ry_fd_12 rfl (lv_at hl 3 rfl) ?_
      refine va_iast hx hb hK hP hD hS k t0 (List.getElem?_set_self hk) ht (vp_in_nI hlt hn31) ry_fd_13 fun H1 locs1 hP1 hD1 hS1 => ?_
      rw [List.set_set, nI_clamp hi31, ry_fl_succ] at hP1 hD1
      refine lv_iinc (v := nI (i + 1)) hx hb ry_fd_14 hl (k := 0) rfl (nI_succ i).symm (by decide) rfl fun ls1 hl1 => ?_
      exact lv_goto (tgt := 5) hx hb ry_fd_17 rfl (ih (i + 1) (by omega) H1 locs1 ls1 hl1 hP1 hD1 hS1)
theorem ry_fill_met (hw : ws[k]? = some (a, .inl (cA, n, .inl f))) (ht : tys[t0]? = some (cA, .int)) (hn : n < 2000000000) :
    Met l yJ7_fill_53178 [.code yJ7_fill_53178 cJ7_fill_53178 4 none] ({ frames := 0, cells := 0, slots := 0, locals := 0 }) (va_Pc [.ref a, .int x] (fun U => va_P D cl ws U.heap ∧ va_K D cl tys U ∧ va_D A ws))
      (va_Qv (fun _ : Unit => True) (fun _ t => va_P D cl (ws.set k (a, .inl (cA, n, .inl (ry_fl x f n)))) t.heap ∧ va_D A (ws.set k (a, .inl (cA, n, .inl (ry_fl x f n))))) A) 0 0 A := by
  refine Met.ofW (cc := cJ7_fill_53178) (maxL := 4) (ret := none) (by decide) rfl ?_
  intro p e s m args below meth c s₁ B hml hv
  obtain ⟨rfl, hP, hK, hD⟩ := hv
  have hx := B.exec
  have hb := B.bytes
  have hr := B.returns
  have hlocks := B.notSynchronized
  have hS : va_S A s.heap s.heap [] := va_S.rf
  have hk : k < ws.length := (List.getElem?_eq_some_iff.mp hw).1
  have hl := lv_entry ([.ref a, .int x]) (n := 4) (Nat.le_of_ble_eq_true rfl)
  rw [lg_entry_eq]
  generalize (lg_sl ([.ref a, .int x]) ++ List.replicate (4 - (lg_sl ([.ref a, .int x])).length) Slot.unset).toArray = ls at hl ⊢
  have hl : lv_has ls 4 [(0, .ref a), (1, .int x)] := hl
  refine lv_iconst (v := nI 0) hx hb ry_fd_0 rfl ?_
  refine lv_istore_n hx hb ry_fd_1 rfl hl (by decide) rfl fun ls1 hl1 => ?_
  refine lv_aload_n hx hb ry_fd_2 rfl (lv_at hl1 1 rfl) ?_
  refine va_alen (v := nI n) hx hb hK hP k t0 hw ht rfl ry_fd_3 ?_
  refine lv_istore_n hx hb ry_fd_4 rfl hl1 (by decide) rfl fun ls2 hl2 => ?_
  have e0 : ws.set k (a, .inl (cA, n, .inl (ry_fl x f 0))) = ws := by
    rw [ry_fl_0]
    exact ry_set_self hw
  refine ry_fill_loop (A := A) (H0 := s.heap) hx hb hK hw ht hn (fun H locs ls hP hD hS => ?_) n 0 (Nat.zero_add n) s.heap [] ls2 ⟨hl2.1, hl2.2.1, fun q hq => hl2.2.2 q ?_⟩ (by rw [e0]; exact hP) (by rw [e0]; exact hD) hS
  · exact W.vret hx hb hr (fun t ht hW => ⟨⟨(), rfl, trivial, by rw [ht]; exact hP, hD⟩, hS.F ht⟩) hS.2.2 ry_fd_20
  · rcases List.mem_cons.mp hq with h | hq
    · subst h; exact List.mem_cons_of_mem _ List.mem_cons_self
    · rcases List.mem_cons.mp hq with h | hq
      · subst h; exact List.mem_cons_self
      · exact List.mem_cons_of_mem _ (List.mem_cons_of_mem _ hq)
end RYL
section RYF
variable {G NW : List Jvm.Cond} {AO : List String} {cl : List vw_C} {nm : Nat → String} {A : Nat → Prop} {xa : Nat → Nat} {PX : State → Prop} {l : Launch} {D : va_G}
variable {p : Program} {e : Env} {R : Room} {s : State} {m : MethodId} {args : Array Value} {below : List Frame} {meth : Method} {c : Code} {Q : State → Prop} {H0 H : Heap} {locs : List Loc} {ls : Array Slot} {r : Nat → Int} {ad : Nat → Nat}
variable {M : ry_Mt} {z : ry_Z} {zs : List ry_Z} {d idx : Nat}
theorem ry_x_fill_ok (hGG : ∀ w ∈ G, goodWord w = true) (hF : ry_Fr G NW AO PX p s m args meth c M) (hn : nm M.1 = M.2.2.2.2.1.cls) (hd : d ≤ R.frames) (hdl : d * 40 ≤ R.locals) (hmc : z.2.2.2.1 ≤ R.cells) (hms : z.2.2.2.2.1 ≤ R.slots) (hw : Jvm.Cond.methodLink (nm M.1) idx yJ7_fill_53178 ∈ G ∧ Jvm.Cond.static yJ7_fill_53178 ∈ G ∧ Jvm.Cond.initialized "java/util/Arrays" ∈ G ∧ Jvm.Cond.code yJ7_fill_53178 cJ7_fill_53178 4 none ∈ G)
    (hdg : decode M.2.1 (ry_zpc z) = .ok (.invokestatic idx, 3)) (hR : ry_R D cl A s xa M.2.2.1 H0 z r ad H locs ls) (hz : ry_x_fill d z = some zs) (K : ∀ z_p ∈ zs, ry_G p l e R s m args below meth c Q D cl A xa M.2.2.1 H0 z.1.length z.2.2.1.length r ad z_p) :
    W p l e R s m args below meth c H locs z.2.2.2.1 z.2.2.2.2.1 Q (F0 m (ry_zpc z) ls ((ry_zst z).map (ry_iv r ad xa))) := by
  unfold ry_x_fill at hz
  split at hz
  · rename_i v t hp1
    split at hz
    · rename_i k t2 hp2
      split at hz
      · rename_i tc n df ov hk
        obtain ⟨h1, hz2⟩ := ry_if_ok hz
        clear hz
        cases hz2
        simp only [Bool.and_eq_true, beq_iff_eq, decide_eq_true_eq] at h1
        obtain ⟨g0, g1, g2, g3⟩ := h1
        subst g0
        have e1 := ry_pi_ok hp1
        have e2 := ry_pr_ok hp2
        subst e2
        have hst := ry_stsc hR
        rw [e1] at hst ⊢
        obtain ⟨hx, hb, hr, hml, hown, hlk, hts, -⟩ := id hF
        rw [hn] at hw
        obtain ⟨ws, tys, hK, hP, hD, hS, hl, hc⟩ := id hR.2.2.2.1
        obtain ⟨hcs0, x0, hw0, hcell0⟩ := hc k _ hk
        obtain ⟨cA, t0, c0, hx0, hty, hsh, hel⟩ := hcell0
        obtain ⟨f, hf⟩ := hsh
        subst hx0; subst hf
        have hMet := ry_fill_met (l := l) (D := D) (cl := cl) (A := A) (x := Int32.ofInt (ry_ev r v)) hw0 hty g3
        have hGI : GoodIn G [Jvm.Cond.code yJ7_fill_53178 cJ7_fill_53178 4 none] := fun w hw2 => by
          rw [List.mem_singleton.mp hw2]
          exact ⟨hw.2.2.2, good_of_word (hGG _ hw.2.2.2)⟩
        have S : CallFix p m c M.2.1 M.2.2.1 s args G M.2.2.2.2.1.cls := ⟨hx, hb, hml, hown, hts⟩
        have hws : ∀ w ∈ [Jvm.Cond.code yJ7_fill_53178 cJ7_fill_53178 4 none], ∀ (a_p : Array Value) (U : State), s.WarmedH U.vm → w.before a_p U = true := pay_in hts hGI
        have hdesc : ∀ sig, parseMethodDescriptor yJ7_fill_53178.desc = some sig → 2 = sig.parameters.length := fun sig h => by
          have h2 : (parseMethodDescriptor yJ7_fill_53178.desc).map (fun d => d.parameters.length) = some 2 := by decide +kernel
          rw [h] at h2
          exact (Option.some.inj h2).symm
        have hblind : FrameBlind (va_Pc [.ref (ad k), .int (Int32.ofInt (ry_ev r v))] (fun U => va_P D cl ws U.heap ∧ va_K D cl tys U ∧ va_D A ws)) := fun a U g mk h => ⟨h.1, h.2.1, va_K.moved (Vm.Alike.refl U.vm) h.2.2.1, h.2.2.2⟩
        have hp : PreS s H (va_Pc [.ref (ad k), .int (Int32.ofInt (ry_ev r v))] (fun U => va_P D cl ws U.heap ∧ va_K D cl tys U ∧ va_D A ws)) [.ref (ad k), .int (Int32.ofInt (ry_ev r v))] := ⟨hblind, fun U hU hW => ⟨rfl, by rw [hU]; exact hP, va_K.moved hW.alike hK, hD⟩⟩
        have hrest : 2 * (F0 m (ry_zpc z) ls ((ry_zst z).map (ry_iv r ad xa))).monitorRoom + ((t2.map (ry_iv r ad xa)).map fun v => v.category).sum ≤ 8 := lv_room (by rw [ry_cats_sum]; exact g2)
        have hlsz : ls.size = M.2.2.1 := (ry_lvh hR).1
        have hrun := va_runS (g := F0 m (ry_zpc z) ls (.int (Int32.ofInt (ry_ev r v)) :: .ref (ad k) :: t2.map (ry_iv r ad xa))) (rest := t2.map (ry_iv r ad xa)) (cells := z.2.2.2.1) (slots := z.2.2.2.2.1) (below := below) (meth := meth) (e := e) (locs := locs) (n := 2) S hMet ⟨⟨rfl, rfl, Nat.le_trans g1 hd, (by show 8 + (4 + 11) + 0 ≤ R.locals; omega), hws, List.mem_cons_self, hts _ hw.2.2.2, hts _ hw.2.2.1, ⟨by decide +kernel, by decide +kernel⟩, hdesc, hts _ hw.1⟩, hts _ hw.2.1⟩ hp rfl rfl hlsz rfl hrest hdg ⟨hmc, hms⟩
        show W p l e R s m args below meth c H locs z.2.2.2.1 z.2.2.2.2.1 Q (F0 m (ry_zpc z) ls (.int (Int32.ofInt (ry_ev r v)) :: .ref (ad k) :: t2.map (ry_iv r ad xa)))
        refine va_callv hrun hS (fun _ _ h => h) (fun _ h => h) fun u tt H1 locs1 htt hvm _ hB _ _ hS1 => ?_
        obtain ⟨hP1, hD1⟩ := hB
        rw [htt] at hP1
        refine ry_at (K _ List.mem_cons_self) ry_same.rf ry_sameA.rf (ry_R_nxh hR (by rw [List.length_set]) (ry_W_set hK hl hc (fun j hj => ?_) ⟨cA, t0, _, rfl, hty, ⟨_, rfl⟩, fun j hj => ?_⟩ hP1 hD1 hS1) fun y hy => hst y (List.mem_cons_of_mem _ (List.mem_cons_of_mem _ hy))) rfl rfl rfl rfl
        · exact hst _ List.mem_cons_self
        · show Value.int (ry_fl (Int32.ofInt (ry_ev r v)) f n j) = Value.int (Int32.ofInt (ry_ev r v))
          rw [ry_fl, if_pos hj]
      · cases hz
    · cases hz
  · cases hz
end RYF
end
section
theorem ry_xm_ok {M : ry_Mt} {z : ry_Z} {R : Room} (h : ry_xm M z = true) (hmc : M.2.2.2.2.2.2.1 ≤ R.cells) (hms : M.2.2.2.2.2.2.2 ≤ R.slots) : z.2.2.2.1 ≤ R.cells ∧ z.2.2.2.2.1 ≤ R.slots := by
  unfold ry_xm at h
  rw [Bool.and_eq_true, decide_eq_true_eq, decide_eq_true_eq] at h
  exact ⟨Nat.le_trans h.1 hmc, Nat.le_trans h.2 hms⟩
theorem ryStL_no (o idx : Nat) : ry_lku (ryStL o) idx = none := by
  unfold ryStL
  rfl
theorem ry_false {α : Type} {b : Bool} {o : Option (List α)} {zs : List α} (h : ry_if (b && false) o = some zs) : False := by
  obtain ⟨h1, -⟩ := ry_if_ok h
  rw [Bool.and_false] at h1
  exact Bool.false_ne_true h1
set_option maxHeartbeats 1000000 in
theorem ryXh_ok (A : Nat → Prop) (xa : Nat → Nat) (PX : State → Prop) (l : Launch) (D : va_G) : ry_xhOK ryXh ryG ryNW ryAO vwCl ryNm A xa PX l D := by
  intro d M i len z zs h hn p e R s m args below meth c Q H0 H locs ls r ad hF hA hH0 hmc hms hd hdl hdg hR K
  cases i with
  | ldc idx =>
    obtain ⟨hl, h2⟩ := ry_ifn (show ry_if (len == 2) (ry_x_str (fun o i => ry_lku (ryStL o) i) M.1 idx z) = some zs from h)
    unfold ry_x_str at h2
    dsimp only at h2
    rw [ryStL_no] at h2
    cases h2
  | sipush n => exact (ry_false (show ry_if (len == 3 && false) (ry_x_image z) = some zs from h)).elim
  | invokespecial idx =>
    obtain ⟨hl, h2⟩ := ry_if_ok (show ry_if (len == 3 && ry_lku (ryXtL M.1) idx == some 10) (ry_x_init d z) = some zs from h)
    simp only [Bool.and_eq_true, beq_iff_eq] at hl
    obtain ⟨g1, g2⟩ := hl
    subst g1
    exact ry_x_init_ok hF hn hd hdl ⟨(ryXt_ok _ _ _ g2).1 rfl, ryW_i1, ryW_i2⟩ hdg hR h2 K
  | invokestatic idx =>
    obtain ⟨hl, h2⟩ := ry_ifn (show ry_if (len == 3) (match ry_lku (ryXtL M.1) idx with
      | some 11 => ry_x_copy d z
      | some 12 => ry_if (ry_xm M z) (ry_x_fill d z)
      | some 13 => ry_if (ry_xm M z) (ry_x_min d z)
      | _ => none) = some zs from h)
    subst hl
    split at h2
    · rename_i hk
      exact absurd (ryXt_ok _ _ _ hk).2.2 (by decide)
    · rename_i hk
      obtain ⟨hm, h3⟩ := ry_if_ok h2
      obtain ⟨c1, c2⟩ := ry_xm_ok hm hmc hms
      exact ry_x_fill_ok ryGgood hF hn hd hdl c1 c2 ⟨(ryXt_ok _ _ _ hk).2.1 rfl, ryW_f1, ryW_f2, ryW_f3⟩ hdg hR h3 K
    · rename_i hk
      exact absurd (ryXt_ok _ _ _ hk).2.2 (by decide)
    · cases h2
  | invokevirtual idx =>
    obtain ⟨hl, h2⟩ := ry_if_ok (show ry_if (len == 3 && ry_lku (ryXtL M.1) idx == some 14) (ry_if (ry_xm M z) (ry_x_slen rySlen d z)) = some zs from h)
    simp only [Bool.and_eq_true, beq_iff_eq] at hl
    exact absurd (ryXt_ok _ _ _ hl.2).2.2 (by decide)
  | _ => exact absurd (show (none : Option (List ry_Z)) = some zs from h) (fun q => by cases q)
end
section
noncomputable def ryI0 : ry_I := [(0, 0), (0, 3072), (-2147483648, 2147483647), (-2147483648, 2147483647), (-2147483648, 2147483647), (-2147483648, 2147483647), (-2147483648, 2147483647), (-2147483648, 2147483647)]
noncomputable def ryH : List ry_C := [.inl (11, [.inl (.inl (some 1)), .inl (.inl (some 137)), .inl (.inl (some 410)), .inl (.inl (some 411)), .inl (.inr (0, (0, 0))), .inl (.inl (some 412)), .inl (.inl (some 427)), .inl (.inr (0, (0, 0))), .inl (.inr (0, (0, 0))), .inl (.inl (some 437)), .inl (.inl (some 438)), .inl (.inl (some 443)), .inl (.inl (some 451)), .inl (.inl (some 459)), .inl (.inl (some 468)), .inl (.inl (some 475)), .inl (.inr (0, (0, 0))), .inl (.inl (some 476)), .inl (.inl (some 479)), .inl (.inr (0, (0, 0)))]),
  .inl (10, [.inl (.inr (0, (0, 0))), .inl (.inl (some 2)), .inl (.inl (some 3)), .inl (.inl (some 4)), .inl (.inl (some 5)), .inl (.inr (0, (0, 0))), .inl (.inl (some 9)), .inl (.inl (some 10)), .inl (.inl (some 11)), .inl (.inl (some 12)), .inl (.inr (0, (0, 0))), .inl (.inl (some 13)), .inl (.inl (some 14)), .inl (.inl (some 19)), .inl (.inr (0, (0, 0))), .inl (.inr (0, (0, (-1)))), .inl (.inl (some 20)), .inl (.inl (some 21)), .inl (.inl (some 22))]),
  .inr (0, 6, .inl (.inr (0, (0, 0))), []),
  .inr (0, 6, .inl (.inr (0, (0, 0))), []),
  .inr (14, 6, .inl (.inl none), [(5, .inl (some 38)), (4, .inl (some 35)), (3, .inl (some 32)), (2, .inl (some 29)), (1, .inl (some 26)), (0, .inl (some 23))]),
  .inl (5, [.inl (.inr (0, (0, 0))), .inl (.inl (some 6)), .inl (.inl (some 7)), .inl (.inl (some 8))]),
  .inr (0, 8, .inl (.inr (0, (0, 0))), []),
  .inr (0, 8, .inl (.inr (0, (0, 0))), []),
  .inr (0, 8, .inl (.inr (0, (0, 0))), []),
  .inr (0, 12, .inl (.inr (0, (0, 0))), []),
  .inr (0, 12, .inl (.inr (0, (0, 0))), []),
  .inr (0, 12, .inl (.inr (0, (0, 0))), []),
  .inr (14, 12, .inl (.inl none), [(11, .inl (some 74)), (10, .inl (some 71)), (9, .inl (some 68)), (8, .inl (some 65)), (7, .inl (some 62)), (6, .inl (some 59)), (5, .inl (some 56)), (4, .inl (some 53)), (3, .inl (some 50)), (2, .inl (some 47)), (1, .inl (some 44)), (0, .inl (some 41))]),
  .inr (0, 12, .inl (.inr (0, (0, 0))), []),
  .inl (2, [.inl (.inr (0, (0, 0))), .inl (.inl (some 15)), .inl (.inl (some 16)), .inl (.inl (some 17)), .inl (.inl (some 18))]),
  .inr (0, 12, .inl (.inr (0, (0, 0))), []),
  .inr (0, 12, .inl (.inr (0, (0, 0))), []),
  .inr (0, 12, .inl (.inr (0, (0, 0))), []),
  .inr (0, 4, .inl (.inr (0, (0, 0))), []),
  .inr (0, 3, .inl (.inr (0, (0, 0))), [(2, .inr (0, (0, 10)))]),
  .inr (11, 6, .inl (.inl none), [(5, .inl (some 127)), (4, .inl (some 117)), (3, .inl (some 107)), (2, .inl (some 97)), (1, .inl (some 87)), (0, .inl (some 77))]),
  .inr (0, 3, .inl (.inr (0, (0, 0))), []),
  .inr (0, 8, .inl (.inr (0, (0, 0))), []),
  .inl (9, [.inl (.inl (some 24)), .inl (.inl (some 25))]),
  .inr (0, 36, .inl (.inr (0, (0, (-1)))), []),
  .inr (0, 36, .inl (.inr (0, (0, (-1)))), []),
  .inl (9, [.inl (.inl (some 27)), .inl (.inl (some 28))]),
  .inr (0, 36, .inl (.inr (0, (0, (-1)))), []),
  .inr (0, 36, .inl (.inr (0, (0, (-1)))), []),
  .inl (9, [.inl (.inl (some 30)), .inl (.inl (some 31))]),
  .inr (0, 36, .inl (.inr (0, (0, (-1)))), []),
  .inr (0, 36, .inl (.inr (0, (0, (-1)))), []),
  .inl (9, [.inl (.inl (some 33)), .inl (.inl (some 34))]),
  .inr (0, 36, .inl (.inr (0, (0, (-1)))), []),
  .inr (0, 36, .inl (.inr (0, (0, (-1)))), []),
  .inl (9, [.inl (.inl (some 36)), .inl (.inl (some 37))]),
  .inr (0, 36, .inl (.inr (0, (0, (-1)))), []),
  .inr (0, 36, .inl (.inr (0, (0, (-1)))), []),
  .inl (9, [.inl (.inl (some 39)), .inl (.inl (some 40))]),
  .inr (0, 36, .inl (.inr (0, (0, (-1)))), []),
  .inr (0, 36, .inl (.inr (0, (0, (-1)))), []),
  .inl (9, [.inl (.inl (some 42)), .inl (.inl (some 43))]),
  .inr (0, 36, .inl (.inr (0, (0, (-1)))), []),
  .inr (0, 36, .inl (.inr (0, (0, (-1)))), []),
  .inl (9, [.inl (.inl (some 45)), .inl (.inl (some 46))]),
  .inr (0, 36, .inl (.inr (0, (0, (-1)))), []),
  .inr (0, 36, .inl (.inr (0, (0, (-1)))), []),
  .inl (9, [.inl (.inl (some 48)), .inl (.inl (some 49))]),
  .inr (0, 36, .inl (.inr (0, (0, (-1)))), []),
  .inr (0, 36, .inl (.inr (0, (0, (-1)))), []),
  .inl (9, [.inl (.inl (some 51)), .inl (.inl (some 52))]),
  .inr (0, 36, .inl (.inr (0, (0, (-1)))), []),
  .inr (0, 36, .inl (.inr (0, (0, (-1)))), []),
  .inl (9, [.inl (.inl (some 54)), .inl (.inl (some 55))]),
  .inr (0, 36, .inl (.inr (0, (0, (-1)))), []),
  .inr (0, 36, .inl (.inr (0, (0, (-1)))), []),
  .inl (9, [.inl (.inl (some 57)), .inl (.inl (some 58))]),
  .inr (0, 36, .inl (.inr (0, (0, (-1)))), []),
  .inr (0, 36, .inl (.inr (0, (0, (-1)))), []),
  .inl (9, [.inl (.inl (some 60)), .inl (.inl (some 61))]),
  .inr (0, 36, .inl (.inr (0, (0, (-1)))), []),
  .inr (0, 36, .inl (.inr (0, (0, (-1)))), []),
  .inl (9, [.inl (.inl (some 63)), .inl (.inl (some 64))]),
  .inr (0, 36, .inl (.inr (0, (0, (-1)))), []),
  .inr (0, 36, .inl (.inr (0, (0, (-1)))), []),
  .inl (9, [.inl (.inl (some 66)), .inl (.inl (some 67))]),
  .inr (0, 36, .inl (.inr (0, (0, (-1)))), []),
  .inr (0, 36, .inl (.inr (0, (0, (-1)))), []),
  .inl (9, [.inl (.inl (some 69)), .inl (.inl (some 70))]),
  .inr (0, 36, .inl (.inr (0, (0, (-1)))), []),
  .inr (0, 36, .inl (.inr (0, (0, (-1)))), []),
  .inl (9, [.inl (.inl (some 72)), .inl (.inl (some 73))]),
  .inr (0, 36, .inl (.inr (0, (0, (-1)))), []),
  .inr (0, 36, .inl (.inr (0, (0, (-1)))), []),
  .inl (9, [.inl (.inl (some 75)), .inl (.inl (some 76))]),
  .inr (0, 36, .inl (.inr (0, (0, (-1)))), []),
  .inr (0, 36, .inl (.inr (0, (0, (-1)))), []),
  .inl (6, [.inl (.inr (0, (0, 0))), .inl (.inl (some 78)), .inl (.inl (some 79)), .inl (.inl (some 80)), .inl (.inr (0, (0, 0))), .inl (.inl (some 81)), .inl (.inl (some 82)), .inl (.inl (some 83)), .inl (.inl (some 84)), .inl (.inl (some 85)), .inl (.inl (some 86))]),
  .inr (0, 400, .inl (.inr (0, (0, 0))), []),
  .inr (0, 400, .inl (.inr (0, (0, 0))), []),
  .inr (2, 64, .inl (.inr (1, (0, 0))), []),
  .inr (0, 12, .inl (.inr (0, (0, 0))), []),
  .inr (0, 12, .inl (.inr (0, (0, 0))), []),
  .inr (0, 12, .inl (.inr (0, (0, 0))), []),
  .inr (0, 12, .inl (.inr (0, (0, 0))), []),
  .inr (0, 12, .inl (.inr (0, (0, 0))), []),
  .inr (0, 12, .inl (.inr (0, (0, 0))), []),
  .inl (6, [.inl (.inr (0, (0, 0))), .inl (.inl (some 88)), .inl (.inl (some 89)), .inl (.inl (some 90)), .inl (.inr (0, (0, 0))), .inl (.inl (some 91)), .inl (.inl (some 92)), .inl (.inl (some 93)), .inl (.inl (some 94)), .inl (.inl (some 95)), .inl (.inl (some 96))]),
  .inr (0, 400, .inl (.inr (0, (0, 0))), []),
  .inr (0, 400, .inl (.inr (0, (0, 0))), []),
  .inr (2, 64, .inl (.inr (1, (0, 0))), []),
  .inr (0, 12, .inl (.inr (0, (0, 0))), []),
  .inr (0, 12, .inl (.inr (0, (0, 0))), []),
  .inr (0, 12, .inl (.inr (0, (0, 0))), []),
  .inr (0, 12, .inl (.inr (0, (0, 0))), []),
  .inr (0, 12, .inl (.inr (0, (0, 0))), []),
  .inr (0, 12, .inl (.inr (0, (0, 0))), []),
  .inl (6, [.inl (.inr (0, (0, 0))), .inl (.inl (some 98)), .inl (.inl (some 99)), .inl (.inl (some 100)), .inl (.inr (0, (0, 0))), .inl (.inl (some 101)), .inl (.inl (some 102)), .inl (.inl (some 103)), .inl (.inl (some 104)), .inl (.inl (some 105)), .inl (.inl (some 106))]),
  .inr (0, 400, .inl (.inr (0, (0, 0))), []),
  .inr (0, 400, .inl (.inr (0, (0, 0))), []),
  .inr (2, 64, .inl (.inr (1, (0, 0))), []),
  .inr (0, 12, .inl (.inr (0, (0, 0))), []),
  .inr (0, 12, .inl (.inr (0, (0, 0))), []),
  .inr (0, 12, .inl (.inr (0, (0, 0))), []),
  .inr (0, 12, .inl (.inr (0, (0, 0))), []),
  .inr (0, 12, .inl (.inr (0, (0, 0))), []),
  .inr (0, 12, .inl (.inr (0, (0, 0))), []),
  .inl (6, [.inl (.inr (0, (0, 0))), .inl (.inl (some 108)), .inl (.inl (some 109)), .inl (.inl (some 110)), .inl (.inr (0, (0, 0))), .inl (.inl (some 111)), .inl (.inl (some 112)), .inl (.inl (some 113)), .inl (.inl (some 114)), .inl (.inl (some 115)), .inl (.inl (some 116))]),
  .inr (0, 400, .inl (.inr (0, (0, 0))), []),
  .inr (0, 400, .inl (.inr (0, (0, 0))), []),
  .inr (2, 64, .inl (.inr (1, (0, 0))), []),
  .inr (0, 12, .inl (.inr (0, (0, 0))), []),
  .inr (0, 12, .inl (.inr (0, (0, 0))), []),
  .inr (0, 12, .inl (.inr (0, (0, 0))), []),
  .inr (0, 12, .inl (.inr (0, (0, 0))), []),
  .inr (0, 12, .inl (.inr (0, (0, 0))), []),
  .inr (0, 12, .inl (.inr (0, (0, 0))), []),
  .inl (6, [.inl (.inr (0, (0, 0))), .inl (.inl (some 118)), .inl (.inl (some 119)), .inl (.inl (some 120)), .inl (.inr (0, (0, 0))), .inl (.inl (some 121)), .inl (.inl (some 122)), .inl (.inl (some 123)), .inl (.inl (some 124)), .inl (.inl (some 125)), .inl (.inl (some 126))]),
  .inr (0, 400, .inl (.inr (0, (0, 0))), []),
  .inr (0, 400, .inl (.inr (0, (0, 0))), []),
  .inr (2, 64, .inl (.inr (1, (0, 0))), []),
  .inr (0, 12, .inl (.inr (0, (0, 0))), []),
  .inr (0, 12, .inl (.inr (0, (0, 0))), []),
  .inr (0, 12, .inl (.inr (0, (0, 0))), []),
  .inr (0, 12, .inl (.inr (0, (0, 0))), []),
  .inr (0, 12, .inl (.inr (0, (0, 0))), []),
  .inr (0, 12, .inl (.inr (0, (0, 0))), []),
  .inl (6, [.inl (.inr (0, (0, 0))), .inl (.inl (some 128)), .inl (.inl (some 129)), .inl (.inl (some 130)), .inl (.inr (0, (0, 0))), .inl (.inl (some 131)), .inl (.inl (some 132)), .inl (.inl (some 133)), .inl (.inl (some 134)), .inl (.inl (some 135)), .inl (.inl (some 136))]),
  .inr (0, 400, .inl (.inr (0, (0, 0))), []),
  .inr (0, 400, .inl (.inr (0, (0, 0))), []),
  .inr (2, 64, .inl (.inr (1, (0, 0))), []),
  .inr (0, 12, .inl (.inr (0, (0, 0))), []),
  .inr (0, 12, .inl (.inr (0, (0, 0))), []),
  .inr (0, 12, .inl (.inr (0, (0, 0))), []),
  .inr (0, 12, .inl (.inr (0, (0, 0))), []),
  .inr (0, 12, .inl (.inr (0, (0, 0))), []),
  .inr (0, 12, .inl (.inr (0, (0, 0))), []),
  .inr (15, 2, .inl (.inl none), [(1, .inl (some 274)), (0, .inl (some 138))]),
  .inl (10, [.inl (.inr (0, (0, 0))), .inl (.inl (some 139)), .inl (.inl (some 140)), .inl (.inl (some 141)), .inl (.inl (some 142)), .inl (.inr (0, (0, 0))), .inl (.inl (some 146)), .inl (.inl (some 147)), .inl (.inl (some 148)), .inl (.inl (some 149)), .inl (.inr (0, (0, 0))), .inl (.inl (some 150)), .inl (.inl (some 151)), .inl (.inl (some 156)), .inl (.inr (0, (0, 0))), .inl (.inr (0, (0, (-1)))), .inl (.inl (some 157)), .inl (.inl (some 158)), .inl (.inl (some 159))]),
  .inr (0, 6, .inl (.inr (0, (0, 0))), []),
  .inr (0, 6, .inl (.inr (0, (0, 0))), []),
  .inr (14, 6, .inl (.inl none), [(5, .inl (some 175)), (4, .inl (some 172)), (3, .inl (some 169)), (2, .inl (some 166)), (1, .inl (some 163)), (0, .inl (some 160))]),
  .inl (5, [.inl (.inr (0, (0, 0))), .inl (.inl (some 143)), .inl (.inl (some 144)), .inl (.inl (some 145))]),
  .inr (0, 8, .inl (.inr (0, (0, 0))), []),
  .inr (0, 8, .inl (.inr (0, (0, 0))), []),
  .inr (0, 8, .inl (.inr (0, (0, 0))), []),
  .inr (0, 12, .inl (.inr (0, (0, 0))), []),
  .inr (0, 12, .inl (.inr (0, (0, 0))), []),
  .inr (0, 12, .inl (.inr (0, (0, 0))), []),
  .inr (14, 12, .inl (.inl none), [(11, .inl (some 211)), (10, .inl (some 208)), (9, .inl (some 205)), (8, .inl (some 202)), (7, .inl (some 199)), (6, .inl (some 196)), (5, .inl (some 193)), (4, .inl (some 190)), (3, .inl (some 187)), (2, .inl (some 184)), (1, .inl (some 181)), (0, .inl (some 178))]),
  .inr (0, 12, .inl (.inr (0, (0, 0))), []),
  .inl (2, [.inl (.inr (0, (0, 0))), .inl (.inl (some 152)), .inl (.inl (some 153)), .inl (.inl (some 154)), .inl (.inl (some 155))]),
  .inr (0, 12, .inl (.inr (0, (0, 0))), []),
  .inr (0, 12, .inl (.inr (0, (0, 0))), []),
  .inr (0, 12, .inl (.inr (0, (0, 0))), []),
  .inr (0, 4, .inl (.inr (0, (0, 0))), []),
  .inr (0, 3, .inl (.inr (0, (0, 0))), [(2, .inr (0, (0, 10)))]),
  .inr (11, 6, .inl (.inl none), [(5, .inl (some 264)), (4, .inl (some 254)), (3, .inl (some 244)), (2, .inl (some 234)), (1, .inl (some 224)), (0, .inl (some 214))]),
  .inr (0, 3, .inl (.inr (0, (0, 0))), []),
  .inr (0, 8, .inl (.inr (0, (0, 0))), []),
  .inl (9, [.inl (.inl (some 161)), .inl (.inl (some 162))]),
  .inr (0, 36, .inl (.inr (0, (0, (-1)))), []),
  .inr (0, 36, .inl (.inr (0, (0, (-1)))), []),
  .inl (9, [.inl (.inl (some 164)), .inl (.inl (some 165))]),
  .inr (0, 36, .inl (.inr (0, (0, (-1)))), []),
  .inr (0, 36, .inl (.inr (0, (0, (-1)))), []),
  .inl (9, [.inl (.inl (some 167)), .inl (.inl (some 168))]),
  .inr (0, 36, .inl (.inr (0, (0, (-1)))), []),
  .inr (0, 36, .inl (.inr (0, (0, (-1)))), []),
  .inl (9, [.inl (.inl (some 170)), .inl (.inl (some 171))]),
  .inr (0, 36, .inl (.inr (0, (0, (-1)))), []),
  .inr (0, 36, .inl (.inr (0, (0, (-1)))), []),
  .inl (9, [.inl (.inl (some 173)), .inl (.inl (some 174))]),
  .inr (0, 36, .inl (.inr (0, (0, (-1)))), []),
  .inr (0, 36, .inl (.inr (0, (0, (-1)))), []),
  .inl (9, [.inl (.inl (some 176)), .inl (.inl (some 177))]),
  .inr (0, 36, .inl (.inr (0, (0, (-1)))), []),
  .inr (0, 36, .inl (.inr (0, (0, (-1)))), []),
  .inl (9, [.inl (.inl (some 179)), .inl (.inl (some 180))]),
  .inr (0, 36, .inl (.inr (0, (0, (-1)))), []),
  .inr (0, 36, .inl (.inr (0, (0, (-1)))), []),
  .inl (9, [.inl (.inl (some 182)), .inl (.inl (some 183))]),
  .inr (0, 36, .inl (.inr (0, (0, (-1)))), []),
  .inr (0, 36, .inl (.inr (0, (0, (-1)))), []),
  .inl (9, [.inl (.inl (some 185)), .inl (.inl (some 186))]),
  .inr (0, 36, .inl (.inr (0, (0, (-1)))), []),
  .inr (0, 36, .inl (.inr (0, (0, (-1)))), []),
  .inl (9, [.inl (.inl (some 188)), .inl (.inl (some 189))]),
  .inr (0, 36, .inl (.inr (0, (0, (-1)))), []),
  .inr (0, 36, .inl (.inr (0, (0, (-1)))), []),
  .inl (9, [.inl (.inl (some 191)), .inl (.inl (some 192))]),
  .inr (0, 36, .inl (.inr (0, (0, (-1)))), []),
  .inr (0, 36, .inl (.inr (0, (0, (-1)))), []),
  .inl (9, [.inl (.inl (some 194)), .inl (.inl (some 195))]),
  .inr (0, 36, .inl (.inr (0, (0, (-1)))), []),
  .inr (0, 36, .inl (.inr (0, (0, (-1)))), []),
  .inl (9, [.inl (.inl (some 197)), .inl (.inl (some 198))]),
  .inr (0, 36, .inl (.inr (0, (0, (-1)))), []),
  .inr (0, 36, .inl (.inr (0, (0, (-1)))), []),
  .inl (9, [.inl (.inl (some 200)), .inl (.inl (some 201))]),
  .inr (0, 36, .inl (.inr (0, (0, (-1)))), []),
  .inr (0, 36, .inl (.inr (0, (0, (-1)))), []),
  .inl (9, [.inl (.inl (some 203)), .inl (.inl (some 204))]),
  .inr (0, 36, .inl (.inr (0, (0, (-1)))), []),
  .inr (0, 36, .inl (.inr (0, (0, (-1)))), []),
  .inl (9, [.inl (.inl (some 206)), .inl (.inl (some 207))]),
  .inr (0, 36, .inl (.inr (0, (0, (-1)))), []),
  .inr (0, 36, .inl (.inr (0, (0, (-1)))), []),
  .inl (9, [.inl (.inl (some 209)), .inl (.inl (some 210))]),
  .inr (0, 36, .inl (.inr (0, (0, (-1)))), []),
  .inr (0, 36, .inl (.inr (0, (0, (-1)))), []),
  .inl (9, [.inl (.inl (some 212)), .inl (.inl (some 213))]),
  .inr (0, 36, .inl (.inr (0, (0, (-1)))), []),
  .inr (0, 36, .inl (.inr (0, (0, (-1)))), []),
  .inl (6, [.inl (.inr (0, (0, 0))), .inl (.inl (some 215)), .inl (.inl (some 216)), .inl (.inl (some 217)), .inl (.inr (0, (0, 0))), .inl (.inl (some 218)), .inl (.inl (some 219)), .inl (.inl (some 220)), .inl (.inl (some 221)), .inl (.inl (some 222)), .inl (.inl (some 223))]),
  .inr (0, 400, .inl (.inr (0, (0, 0))), []),
  .inr (0, 400, .inl (.inr (0, (0, 0))), []),
  .inr (2, 64, .inl (.inr (1, (0, 0))), []),
  .inr (0, 12, .inl (.inr (0, (0, 0))), []),
  .inr (0, 12, .inl (.inr (0, (0, 0))), []),
  .inr (0, 12, .inl (.inr (0, (0, 0))), []),
  .inr (0, 12, .inl (.inr (0, (0, 0))), []),
  .inr (0, 12, .inl (.inr (0, (0, 0))), []),
  .inr (0, 12, .inl (.inr (0, (0, 0))), []),
  .inl (6, [.inl (.inr (0, (0, 0))), .inl (.inl (some 225)), .inl (.inl (some 226)), .inl (.inl (some 227)), .inl (.inr (0, (0, 0))), .inl (.inl (some 228)), .inl (.inl (some 229)), .inl (.inl (some 230)), .inl (.inl (some 231)), .inl (.inl (some 232)), .inl (.inl (some 233))]),
  .inr (0, 400, .inl (.inr (0, (0, 0))), []),
  .inr (0, 400, .inl (.inr (0, (0, 0))), []),
  .inr (2, 64, .inl (.inr (1, (0, 0))), []),
  .inr (0, 12, .inl (.inr (0, (0, 0))), []),
  .inr (0, 12, .inl (.inr (0, (0, 0))), []),
  .inr (0, 12, .inl (.inr (0, (0, 0))), []),
  .inr (0, 12, .inl (.inr (0, (0, 0))), []),
  .inr (0, 12, .inl (.inr (0, (0, 0))), []),
  .inr (0, 12, .inl (.inr (0, (0, 0))), []),
  .inl (6, [.inl (.inr (0, (0, 0))), .inl (.inl (some 235)), .inl (.inl (some 236)), .inl (.inl (some 237)), .inl (.inr (0, (0, 0))), .inl (.inl (some 238)), .inl (.inl (some 239)), .inl (.inl (some 240)), .inl (.inl (some 241)), .inl (.inl (some 242)), .inl (.inl (some 243))]),
  .inr (0, 400, .inl (.inr (0, (0, 0))), []),
  .inr (0, 400, .inl (.inr (0, (0, 0))), []),
  .inr (2, 64, .inl (.inr (1, (0, 0))), []),
  .inr (0, 12, .inl (.inr (0, (0, 0))), []),
  .inr (0, 12, .inl (.inr (0, (0, 0))), []),
  .inr (0, 12, .inl (.inr (0, (0, 0))), []),
  .inr (0, 12, .inl (.inr (0, (0, 0))), []),
  .inr (0, 12, .inl (.inr (0, (0, 0))), []),
  .inr (0, 12, .inl (.inr (0, (0, 0))), []),
  .inl (6, [.inl (.inr (0, (0, 0))), .inl (.inl (some 245)), .inl (.inl (some 246)), .inl (.inl (some 247)), .inl (.inr (0, (0, 0))), .inl (.inl (some 248)), .inl (.inl (some 249)), .inl (.inl (some 250)), .inl (.inl (some 251)), .inl (.inl (some 252)), .inl (.inl (some 253))]),
  .inr (0, 400, .inl (.inr (0, (0, 0))), []),
  .inr (0, 400, .inl (.inr (0, (0, 0))), []),
  .inr (2, 64, .inl (.inr (1, (0, 0))), []),
  .inr (0, 12, .inl (.inr (0, (0, 0))), []),
  .inr (0, 12, .inl (.inr (0, (0, 0))), []),
  .inr (0, 12, .inl (.inr (0, (0, 0))), []),
  .inr (0, 12, .inl (.inr (0, (0, 0))), []),
  .inr (0, 12, .inl (.inr (0, (0, 0))), []),
  .inr (0, 12, .inl (.inr (0, (0, 0))), []),
  .inl (6, [.inl (.inr (0, (0, 0))), .inl (.inl (some 255)), .inl (.inl (some 256)), .inl (.inl (some 257)), .inl (.inr (0, (0, 0))), .inl (.inl (some 258)), .inl (.inl (some 259)), .inl (.inl (some 260)), .inl (.inl (some 261)), .inl (.inl (some 262)), .inl (.inl (some 263))]),
  .inr (0, 400, .inl (.inr (0, (0, 0))), []),
  .inr (0, 400, .inl (.inr (0, (0, 0))), []),
  .inr (2, 64, .inl (.inr (1, (0, 0))), []),
  .inr (0, 12, .inl (.inr (0, (0, 0))), []),
  .inr (0, 12, .inl (.inr (0, (0, 0))), []),
  .inr (0, 12, .inl (.inr (0, (0, 0))), []),
  .inr (0, 12, .inl (.inr (0, (0, 0))), []),
  .inr (0, 12, .inl (.inr (0, (0, 0))), []),
  .inr (0, 12, .inl (.inr (0, (0, 0))), []),
  .inl (6, [.inl (.inr (0, (0, 0))), .inl (.inl (some 265)), .inl (.inl (some 266)), .inl (.inl (some 267)), .inl (.inr (0, (0, 0))), .inl (.inl (some 268)), .inl (.inl (some 269)), .inl (.inl (some 270)), .inl (.inl (some 271)), .inl (.inl (some 272)), .inl (.inl (some 273))]),
  .inr (0, 400, .inl (.inr (0, (0, 0))), []),
  .inr (0, 400, .inl (.inr (0, (0, 0))), []),
  .inr (2, 64, .inl (.inr (1, (0, 0))), []),
  .inr (0, 12, .inl (.inr (0, (0, 0))), []),
  .inr (0, 12, .inl (.inr (0, (0, 0))), []),
  .inr (0, 12, .inl (.inr (0, (0, 0))), []),
  .inr (0, 12, .inl (.inr (0, (0, 0))), []),
  .inr (0, 12, .inl (.inr (0, (0, 0))), []),
  .inr (0, 12, .inl (.inr (0, (0, 0))), []),
  .inl (10, [.inl (.inr (0, (0, 0))), .inl (.inl (some 275)), .inl (.inl (some 276)), .inl (.inl (some 277)), .inl (.inl (some 278)), .inl (.inr (0, (0, 0))), .inl (.inl (some 282)), .inl (.inl (some 283)), .inl (.inl (some 284)), .inl (.inl (some 285)), .inl (.inr (0, (0, 0))), .inl (.inl (some 286)), .inl (.inl (some 287)), .inl (.inl (some 292)), .inl (.inr (0, (0, 0))), .inl (.inr (0, (0, (-1)))), .inl (.inl (some 293)), .inl (.inl (some 294)), .inl (.inl (some 295))]),
  .inr (0, 6, .inl (.inr (0, (0, 0))), []),
  .inr (0, 6, .inl (.inr (0, (0, 0))), []),
  .inr (14, 6, .inl (.inl none), [(5, .inl (some 311)), (4, .inl (some 308)), (3, .inl (some 305)), (2, .inl (some 302)), (1, .inl (some 299)), (0, .inl (some 296))]),
  .inl (5, [.inl (.inr (0, (0, 0))), .inl (.inl (some 279)), .inl (.inl (some 280)), .inl (.inl (some 281))]),
  .inr (0, 8, .inl (.inr (0, (0, 0))), []),
  .inr (0, 8, .inl (.inr (0, (0, 0))), []),
  .inr (0, 8, .inl (.inr (0, (0, 0))), []),
  .inr (0, 12, .inl (.inr (0, (0, 0))), []),
  .inr (0, 12, .inl (.inr (0, (0, 0))), []),
  .inr (0, 12, .inl (.inr (0, (0, 0))), []),
  .inr (14, 12, .inl (.inl none), [(11, .inl (some 347)), (10, .inl (some 344)), (9, .inl (some 341)), (8, .inl (some 338)), (7, .inl (some 335)), (6, .inl (some 332)), (5, .inl (some 329)), (4, .inl (some 326)), (3, .inl (some 323)), (2, .inl (some 320)), (1, .inl (some 317)), (0, .inl (some 314))]),
  .inr (0, 12, .inl (.inr (0, (0, 0))), []),
  .inl (2, [.inl (.inr (0, (0, 0))), .inl (.inl (some 288)), .inl (.inl (some 289)), .inl (.inl (some 290)), .inl (.inl (some 291))]),
  .inr (0, 12, .inl (.inr (0, (0, 0))), []),
  .inr (0, 12, .inl (.inr (0, (0, 0))), []),
  .inr (0, 12, .inl (.inr (0, (0, 0))), []),
  .inr (0, 4, .inl (.inr (0, (0, 0))), []),
  .inr (0, 3, .inl (.inr (0, (0, 0))), [(2, .inr (0, (0, 10)))]),
  .inr (11, 6, .inl (.inl none), [(5, .inl (some 400)), (4, .inl (some 390)), (3, .inl (some 380)), (2, .inl (some 370)), (1, .inl (some 360)), (0, .inl (some 350))]),
  .inr (0, 3, .inl (.inr (0, (0, 0))), []),
  .inr (0, 8, .inl (.inr (0, (0, 0))), []),
  .inl (9, [.inl (.inl (some 297)), .inl (.inl (some 298))]),
  .inr (0, 36, .inl (.inr (0, (0, (-1)))), []),
  .inr (0, 36, .inl (.inr (0, (0, (-1)))), []),
  .inl (9, [.inl (.inl (some 300)), .inl (.inl (some 301))]),
  .inr (0, 36, .inl (.inr (0, (0, (-1)))), []),
  .inr (0, 36, .inl (.inr (0, (0, (-1)))), []),
  .inl (9, [.inl (.inl (some 303)), .inl (.inl (some 304))]),
  .inr (0, 36, .inl (.inr (0, (0, (-1)))), []),
  .inr (0, 36, .inl (.inr (0, (0, (-1)))), []),
  .inl (9, [.inl (.inl (some 306)), .inl (.inl (some 307))]),
  .inr (0, 36, .inl (.inr (0, (0, (-1)))), []),
  .inr (0, 36, .inl (.inr (0, (0, (-1)))), []),
  .inl (9, [.inl (.inl (some 309)), .inl (.inl (some 310))]),
  .inr (0, 36, .inl (.inr (0, (0, (-1)))), []),
  .inr (0, 36, .inl (.inr (0, (0, (-1)))), []),
  .inl (9, [.inl (.inl (some 312)), .inl (.inl (some 313))]),
  .inr (0, 36, .inl (.inr (0, (0, (-1)))), []),
  .inr (0, 36, .inl (.inr (0, (0, (-1)))), []),
  .inl (9, [.inl (.inl (some 315)), .inl (.inl (some 316))]),
  .inr (0, 36, .inl (.inr (0, (0, (-1)))), []),
  .inr (0, 36, .inl (.inr (0, (0, (-1)))), []),
  .inl (9, [.inl (.inl (some 318)), .inl (.inl (some 319))]),
  .inr (0, 36, .inl (.inr (0, (0, (-1)))), []),
  .inr (0, 36, .inl (.inr (0, (0, (-1)))), []),
  .inl (9, [.inl (.inl (some 321)), .inl (.inl (some 322))]),
  .inr (0, 36, .inl (.inr (0, (0, (-1)))), []),
  .inr (0, 36, .inl (.inr (0, (0, (-1)))), []),
  .inl (9, [.inl (.inl (some 324)), .inl (.inl (some 325))]),
  .inr (0, 36, .inl (.inr (0, (0, (-1)))), []),
  .inr (0, 36, .inl (.inr (0, (0, (-1)))), []),
  .inl (9, [.inl (.inl (some 327)), .inl (.inl (some 328))]),
  .inr (0, 36, .inl (.inr (0, (0, (-1)))), []),
  .inr (0, 36, .inl (.inr (0, (0, (-1)))), []),
  .inl (9, [.inl (.inl (some 330)), .inl (.inl (some 331))]),
  .inr (0, 36, .inl (.inr (0, (0, (-1)))), []),
  .inr (0, 36, .inl (.inr (0, (0, (-1)))), []),
  .inl (9, [.inl (.inl (some 333)), .inl (.inl (some 334))]),
  .inr (0, 36, .inl (.inr (0, (0, (-1)))), []),
  .inr (0, 36, .inl (.inr (0, (0, (-1)))), []),
  .inl (9, [.inl (.inl (some 336)), .inl (.inl (some 337))]),
  .inr (0, 36, .inl (.inr (0, (0, (-1)))), []),
  .inr (0, 36, .inl (.inr (0, (0, (-1)))), []),
  .inl (9, [.inl (.inl (some 339)), .inl (.inl (some 340))]),
  .inr (0, 36, .inl (.inr (0, (0, (-1)))), []),
  .inr (0, 36, .inl (.inr (0, (0, (-1)))), []),
  .inl (9, [.inl (.inl (some 342)), .inl (.inl (some 343))]),
  .inr (0, 36, .inl (.inr (0, (0, (-1)))), []),
  .inr (0, 36, .inl (.inr (0, (0, (-1)))), []),
  .inl (9, [.inl (.inl (some 345)), .inl (.inl (some 346))]),
  .inr (0, 36, .inl (.inr (0, (0, (-1)))), []),
  .inr (0, 36, .inl (.inr (0, (0, (-1)))), []),
  .inl (9, [.inl (.inl (some 348)), .inl (.inl (some 349))]),
  .inr (0, 36, .inl (.inr (0, (0, (-1)))), []),
  .inr (0, 36, .inl (.inr (0, (0, (-1)))), []),
  .inl (6, [.inl (.inr (0, (0, 0))), .inl (.inl (some 351)), .inl (.inl (some 352)), .inl (.inl (some 353)), .inl (.inr (0, (0, 0))), .inl (.inl (some 354)), .inl (.inl (some 355)), .inl (.inl (some 356)), .inl (.inl (some 357)), .inl (.inl (some 358)), .inl (.inl (some 359))]),
  .inr (0, 400, .inl (.inr (0, (0, 0))), []),
  .inr (0, 400, .inl (.inr (0, (0, 0))), []),
  .inr (2, 64, .inl (.inr (1, (0, 0))), []),
  .inr (0, 12, .inl (.inr (0, (0, 0))), []),
  .inr (0, 12, .inl (.inr (0, (0, 0))), []),
  .inr (0, 12, .inl (.inr (0, (0, 0))), []),
  .inr (0, 12, .inl (.inr (0, (0, 0))), []),
  .inr (0, 12, .inl (.inr (0, (0, 0))), []),
  .inr (0, 12, .inl (.inr (0, (0, 0))), []),
  .inl (6, [.inl (.inr (0, (0, 0))), .inl (.inl (some 361)), .inl (.inl (some 362)), .inl (.inl (some 363)), .inl (.inr (0, (0, 0))), .inl (.inl (some 364)), .inl (.inl (some 365)), .inl (.inl (some 366)), .inl (.inl (some 367)), .inl (.inl (some 368)), .inl (.inl (some 369))]),
  .inr (0, 400, .inl (.inr (0, (0, 0))), []),
  .inr (0, 400, .inl (.inr (0, (0, 0))), []),
  .inr (2, 64, .inl (.inr (1, (0, 0))), []),
  .inr (0, 12, .inl (.inr (0, (0, 0))), []),
  .inr (0, 12, .inl (.inr (0, (0, 0))), []),
  .inr (0, 12, .inl (.inr (0, (0, 0))), []),
  .inr (0, 12, .inl (.inr (0, (0, 0))), []),
  .inr (0, 12, .inl (.inr (0, (0, 0))), []),
  .inr (0, 12, .inl (.inr (0, (0, 0))), []),
  .inl (6, [.inl (.inr (0, (0, 0))), .inl (.inl (some 371)), .inl (.inl (some 372)), .inl (.inl (some 373)), .inl (.inr (0, (0, 0))), .inl (.inl (some 374)), .inl (.inl (some 375)), .inl (.inl (some 376)), .inl (.inl (some 377)), .inl (.inl (some 378)), .inl (.inl (some 379))]),
  .inr (0, 400, .inl (.inr (0, (0, 0))), []),
  .inr (0, 400, .inl (.inr (0, (0, 0))), []),
  .inr (2, 64, .inl (.inr (1, (0, 0))), []),
  .inr (0, 12, .inl (.inr (0, (0, 0))), []),
  .inr (0, 12, .inl (.inr (0, (0, 0))), []),
  .inr (0, 12, .inl (.inr (0, (0, 0))), []),
  .inr (0, 12, .inl (.inr (0, (0, 0))), []),
  .inr (0, 12, .inl (.inr (0, (0, 0))), []),
  .inr (0, 12, .inl (.inr (0, (0, 0))), []),
  .inl (6, [.inl (.inr (0, (0, 0))), .inl (.inl (some 381)), .inl (.inl (some 382)), .inl (.inl (some 383)), .inl (.inr (0, (0, 0))), .inl (.inl (some 384)), .inl (.inl (some 385)), .inl (.inl (some 386)), .inl (.inl (some 387)), .inl (.inl (some 388)), .inl (.inl (some 389))]),
  .inr (0, 400, .inl (.inr (0, (0, 0))), []),
  .inr (0, 400, .inl (.inr (0, (0, 0))), []),
  .inr (2, 64, .inl (.inr (1, (0, 0))), []),
  .inr (0, 12, .inl (.inr (0, (0, 0))), []),
  .inr (0, 12, .inl (.inr (0, (0, 0))), []),
  .inr (0, 12, .inl (.inr (0, (0, 0))), []),
  .inr (0, 12, .inl (.inr (0, (0, 0))), []),
  .inr (0, 12, .inl (.inr (0, (0, 0))), []),
  .inr (0, 12, .inl (.inr (0, (0, 0))), []),
  .inl (6, [.inl (.inr (0, (0, 0))), .inl (.inl (some 391)), .inl (.inl (some 392)), .inl (.inl (some 393)), .inl (.inr (0, (0, 0))), .inl (.inl (some 394)), .inl (.inl (some 395)), .inl (.inl (some 396)), .inl (.inl (some 397)), .inl (.inl (some 398)), .inl (.inl (some 399))]),
  .inr (0, 400, .inl (.inr (0, (0, 0))), []),
  .inr (0, 400, .inl (.inr (0, (0, 0))), []),
  .inr (2, 64, .inl (.inr (1, (0, 0))), []),
  .inr (0, 12, .inl (.inr (0, (0, 0))), []),
  .inr (0, 12, .inl (.inr (0, (0, 0))), []),
  .inr (0, 12, .inl (.inr (0, (0, 0))), []),
  .inr (0, 12, .inl (.inr (0, (0, 0))), []),
  .inr (0, 12, .inl (.inr (0, (0, 0))), []),
  .inr (0, 12, .inl (.inr (0, (0, 0))), []),
  .inl (6, [.inl (.inr (0, (0, 0))), .inl (.inl (some 401)), .inl (.inl (some 402)), .inl (.inl (some 403)), .inl (.inr (0, (0, 0))), .inl (.inl (some 404)), .inl (.inl (some 405)), .inl (.inl (some 406)), .inl (.inl (some 407)), .inl (.inl (some 408)), .inl (.inl (some 409))]),
  .inr (0, 400, .inl (.inr (0, (0, 0))), []),
  .inr (0, 400, .inl (.inr (0, (0, 0))), []),
  .inr (2, 64, .inl (.inr (1, (0, 0))), []),
  .inr (0, 12, .inl (.inr (0, (0, 0))), []),
  .inr (0, 12, .inl (.inr (0, (0, 0))), []),
  .inr (0, 12, .inl (.inr (0, (0, 0))), []),
  .inr (0, 12, .inl (.inr (0, (0, 0))), []),
  .inr (0, 12, .inl (.inr (0, (0, 0))), []),
  .inr (0, 12, .inl (.inr (0, (0, 0))), []),
  .inr (1, 2, .inl (.inr (0, (0, 0))), []),
  .inr (0, 400, .inl (.inr (0, (0, 0))), []),
  .inl (7, [.inl (.inl (some 413)), .inl (.inr (0, (0, 0))), .inl (.inr (0, (0, 0))), .inl (.inr (0, (0, 0))), .inl (.inr (0, (0, (-1)))), .inl (.inr (0, (0, 0))), .inl (.inl (some 414)), .inl (.inr (0, (0, 0))), .inl (.inr (0, (0, 0))), .inl (.inl (some 424)), .inl (.inr (0, (0, 0))), .inl (.inl (some 425)), .inl (.inl (some 426))]),
  .inr (0, 0, .inl (.inr (0, (0, 0))), []),
  .inl (6, [.inl (.inr (0, (0, 0))), .inl (.inl (some 415)), .inl (.inl (some 416)), .inl (.inl (some 417)), .inl (.inr (0, (0, 0))), .inl (.inl (some 418)), .inl (.inl (some 419)), .inl (.inl (some 420)), .inl (.inl (some 421)), .inl (.inl (some 422)), .inl (.inl (some 423))]),
  .inr (0, 400, .inl (.inr (0, (0, 0))), []),
  .inr (0, 400, .inl (.inr (0, (0, 0))), []),
  .inr (2, 64, .inl (.inr (1, (0, 0))), []),
  .inr (0, 12, .inl (.inr (0, (0, 0))), []),
  .inr (0, 12, .inl (.inr (0, (0, 0))), []),
  .inr (0, 12, .inl (.inr (0, (0, 0))), []),
  .inr (0, 12, .inl (.inr (0, (0, 0))), []),
  .inr (0, 12, .inl (.inr (0, (0, 0))), []),
  .inr (0, 12, .inl (.inr (0, (0, 0))), []),
  .inr (0, 9, .inl (.inr (0, (0, 0))), []),
  .inr (0, 400, .inl (.inr (0, (0, 0))), []),
  .inr (0, 400, .inl (.inr (0, (0, 0))), []),
  .inl (6, [.inl (.inr (0, (0, 0))), .inl (.inl (some 428)), .inl (.inl (some 429)), .inl (.inl (some 430)), .inl (.inr (0, (0, 0))), .inl (.inl (some 431)), .inl (.inl (some 432)), .inl (.inl (some 433)), .inl (.inl (some 434)), .inl (.inl (some 435)), .inl (.inl (some 436))]),
  .inr (0, 400, .inl (.inr (0, (0, 0))), []),
  .inr (0, 400, .inl (.inr (0, (0, 0))), []),
  .inr (2, 64, .inl (.inr (1, (0, 0))), []),
  .inr (0, 12, .inl (.inr (0, (0, 0))), []),
  .inr (0, 12, .inl (.inr (0, (0, 0))), []),
  .inr (0, 12, .inl (.inr (0, (0, 0))), []),
  .inr (0, 12, .inl (.inr (0, (0, 0))), []),
  .inr (0, 12, .inl (.inr (0, (0, 0))), []),
  .inr (0, 12, .inl (.inr (0, (0, 0))), []),
  .inr (0, 5, .inl (.inr (0, (0, 0))), []),
  .inl (8, [.inl (.inl (some 439)), .inl (.inl (some 440)), .inl (.inl (some 441)), .inl (.inl (some 442)), .inl (.inr (1, (0, 0))), .inl (.inr (0, (0, 0))), .inl (.inr (0, (0, (-1))))]),
  .inr (0, 36, .inl (.inr (0, (0, 0))), []),
  .inr (0, 36, .inl (.inr (0, (0, 0))), []),
  .inr (0, 36, .inl (.inr (0, (0, 0))), []),
  .inr (0, 36, .inl (.inr (0, (0, 0))), []),
  .inl (3, [.inl (.inl (some 444)), .inl (.inl (some 447)), .inl (.inr (0, (0, 0))), .inl (.inr (0, (0, 0))), .inl (.inr (0, (0, 0))), .inl (.inr (0, (0, 1))), .inl (.inr (0, (0, 0))), .inl (.inl (some 450)), .inl (.inr (0, (0, 0))), .inl (.inr (0, (0, (-1)))), .inl (.inr (0, (0, (-1)))), .inl (.inr (0, (0, (-1)))), .inl (.inr (0, (0, 0))), .inl (.inr (0, (0, (-1)))), .inl (.inr (0, (0, (-1))))]),
  .inl (9, [.inl (.inl (some 445)), .inl (.inl (some 446))]),
  .inr (0, 36, .inl (.inr (0, (0, (-1)))), []),
  .inr (0, 36, .inl (.inr (0, (0, (-1)))), []),
  .inl (9, [.inl (.inl (some 448)), .inl (.inl (some 449))]),
  .inr (0, 36, .inl (.inr (0, (0, (-1)))), []),
  .inr (0, 36, .inl (.inr (0, (0, (-1)))), []),
  .inr (0, 432, .inl (.inr (0, (0, 0))), []),
  .inl (4, [.inl (.inr (0, (0, 0))), .inl (.inl (some 452)), .inl (.inl (some 453)), .inl (.inl (some 454)), .inl (.inl (some 455)), .inl (.inr (0, (0, 0))), .inl (.inr (0, (0, (-1)))), .inl (.inr (0, (0, (-1)))), .inl (.inr (0, (0, 0))), .inl (.inr (0, (0, 0))), .inl (.inr (0, (0, 0))), .inl (.inl (some 456)), .inl (.inl (some 457)), .inl (.inl (some 458))]),
  .inr (0, 12, .inl (.inr (0, (0, 0))), []),
  .inr (0, 12, .inl (.inr (0, (0, 0))), []),
  .inr (0, 12, .inl (.inr (0, (0, 0))), []),
  .inr (0, 4, .inl (.inr (0, (0, 0))), []),
  .inr (0, 12, .inl (.inr (0, (0, 0))), []),
  .inr (0, 18, .inl (.inr (0, (0, 0))), []),
  .inr (0, 18, .inl (.inr (0, (0, 0))), []),
  .inl (1, [.inl (.inl (some 460)), .inl (.inl (some 464)), .inl (.inl (some 465)), .inl (.inl (some 466)), .inl (.inl (some 467)), .inl (.inr (0, (0, 0))), .inl (.inr (0, (0, 0))), .inl (.inr (0, (0, (-1)))), .inl (.inr (0, (0, 0)))]),
  .inl (5, [.inl (.inr (0, (0, 0))), .inl (.inl (some 461)), .inl (.inl (some 462)), .inl (.inl (some 463))]),
  .inr (0, 8, .inl (.inr (0, (0, 0))), []),
  .inr (0, 8, .inl (.inr (0, (0, 0))), []),
  .inr (0, 8, .inl (.inr (0, (0, 0))), []),
  .inr (1, 64, .inl (.inr (0, (0, 0))), []),
  .inr (0, 8, .inl (.inr (0, (0, 0))), []),
  .inr (0, 8, .inl (.inr (0, (0, 0))), []),
  .inr (0, 8, .inl (.inr (0, (0, 0))), []),
  .inl (0, [.inl (.inr (0, (0, 0))), .inl (.inr (0, (0, 0))), .inl (.inl (some 469)), .inl (.inl (some 470)), .inl (.inl (some 471)), .inl (.inl (some 472)), .inl (.inl (some 473)), .inl (.inl (some 474)), .inl (.inr (0, (0, (-1)))), .inl (.inr (0, (0, 0)))]),
  .inr (0, 8, .inl (.inr (0, (0, 0))), []),
  .inr (0, 6, .inl (.inr (0, (0, 0))), []),
  .inr (1, 64, .inl (.inr (0, (0, 0))), []),
  .inr (0, 448, .inl (.inr (0, (0, 0))), []),
  .inr (0, 8, .inl (.inr (0, (0, 0))), []),
  .inr (0, 6, .inl (.inr (0, (0, 0))), []),
  .inr (0, 11, .inl (.inr (0, (0, 0))), []),
  .inl (9, [.inl (.inl (some 477)), .inl (.inl (some 478))]),
  .inr (0, 36, .inl (.inr (0, (0, (-1)))), []),
  .inr (0, 36, .inl (.inr (0, (0, (-1)))), []),
  .inr (0, 8, .inl (.inr (0, (0, 0))), []),
  .inl (12, [.inl (.inr (0, (0, 0))), .inl (.inr (0, (0, 0))), .inl (.inl (some 481)), .inl (.inl (some 482)), .inl (.inl (some 483)), .inl (.inl (some 484)), .inl (.inr (0, (0, 0))), .inl (.inl (some 485)), .inl (.inr (0, (0, 0))), .inl (.inr (0, (0, 0))), .inl (.inr (0, (0, 0))), .inl (.inr (0, (0, 0))), .inl (.inr (1, (0, 0))), .inl (.inr (0, (0, (-1)))), .inl (.inr (0, (0, 0))), .inl (.inr (0, (0, 0))), .inl (.inr (0, (0, 0))), .inl (.inl (some 486)), .inl (.inr (0, (0, 0))), .inl (.inl (some 487)), .inl (.inl (some 488)), .inl (.inr (0, (0, 0))), .inl (.inl (some 489)), .inl (.inl (some 490)), .inl (.inr (0, (0, 0))), .inl (.inr (0, (0, 0))), .inl (.inl (some 491)), .inl (.inl (some 492)), .inl (.inr (0, (0, 0))), .inl (.inl (some 493)), .inl (.inl (some 494)), .inl (.inl (some 495)), .inl (.inr (0, (0, 0))), .inl (.inr (1, (0, 0))), .inl (.inr (1, (0, 0))), .inl (.inl (some 496)), .inl (.inl (some 497)), .inl (.inr (0, (0, 0))), .inl (.inl (some 498)), .inl (.inl (some 499)), .inl (.inl (some 500)), .inl (.inl (some 501)), .inl (.inr (0, (0, 0))), .inl (.inl (some 502)), .inl (.inl (some 503)), .inl (.inr (0, (0, 0))), .inl (.inr (0, (0, 0))), .inl (.inr (0, (0, 0))), .inl (.inr (0, (0, 0))), .inl (.inr (0, (0, 0))), .inl (.inl (some 504)), .inl (.inl (some 505)), .inl (.inl (some 506)), .inl (.inl (some 507)), .inl (.inr (0, (0, 0))), .inl (.inl (some 508)), .inl (.inl (some 509)), .inl (.inl (some 510)), .inl (.inr (0, (0, 0))), .inl (.inr (0, (0, 0))), .inl (.inl (some 511)), .inl (.inl (some 512)), .inl (.inl (some 513)), .inl (.inl (some 514)), .inl (.inl (some 515)), .inl (.inl (some 516)), .inl (.inl (some 517)), .inl (.inl (some 518)), .inl (.inl (some 519)), .inl (.inr (0, (0, 0))), .inl (.inr (0, (0, 0))), .inl (.inr (1, (0, 0))), .inl (.inl (some 520)), .inl (.inl (some 521)), .inl (.inr (0, (0, 0))), .inl (.inr (0, (0, 0)))]),
  .inr (0, 7, .inl (.inr (0, (0, 0))), []),
  .inr (0, 6180, .inl (.inr (0, (0, 0))), [(9, .inr (0, (0, 10))), (4, .inr (0, (0, (-1))))]),
  .inr (0, 12360, .inl (.inr (0, (0, 0))), []),
  .inr (1, 2, .inl (.inr (0, (0, 0))), []),
  .inr (0, 400, .inl (.inr (0, (0, 0))), []),
  .inr (0, 96, .inl (.inr (0, (0, 0))), []),
  .inr (0, 400, .inl (.inr (0, (0, 0))), []),
  .inr (0, 400, .inl (.inr (0, (0, 0))), []),
  .inr (0, 400, .inl (.inr (0, (0, 0))), []),
  .inr (0, 400, .inl (.inr (0, (0, 0))), []),
  .inr (2, 8, .inl (.inr (1, (0, 0))), [(7, .inr (1, (0, 441828))), (6, .inr (1, (0, 824370))), (5, .inr (1, (0, 21643763890))), (4, .inr (1, (0, 525908))), (3, .inr (1, (0, 136228))), (2, .inr (1, (0, 81486))), (1, .inr (1, (0, 441892441))), (0, .inr (1, (0, 542723566)))]),
  .inr (2, 6, .inl (.inr (1, (0, 0))), [(5, .inr (1, (0, 441828))), (4, .inr (1, (0, 525908))), (3, .inr (1, (0, 464660))), (2, .inr (1, (0, 769604))), (1, .inr (1, (0, 3749))), (0, .inr (1, (0, 20579973)))]),
  .inr (2, 13, .inl (.inr (1, (0, 0))), []),
  .inr (2, 13, .inl (.inr (1, (0, 0))), []),
  .inr (2, 400, .inl (.inr (1, (0, 0))), []),
  .inr (0, 120, .inl (.inr (0, (0, 0))), []),
  .inr (0, 12, .inl (.inr (0, (0, 0))), []),
  .inr (0, 36, .inl (.inr (0, (0, 0))), []),
  .inr (0, 36, .inl (.inr (0, (0, 0))), []),
  .inr (0, 36, .inl (.inr (0, (0, 0))), []),
  .inr (0, 40, .inl (.inr (0, (0, 0))), []),
  .inr (0, 432, .inl (.inr (0, (0, 0))), []),
  .inr (0, 434, .inl (.inr (0, (0, 0))), []),
  .inr (0, 10, .inl (.inr (0, (0, 0))), []),
  .inr (0, 8, .inl (.inr (0, (0, 0))), []),
  .inr (0, 8, .inl (.inr (0, (0, 0))), []),
  .inr (0, 8, .inl (.inr (0, (0, 0))), []),
  .inr (0, 6, .inl (.inr (0, (0, 0))), []),
  .inr (0, 6, .inl (.inr (0, (0, 0))), []),
  .inr (1, 48, .inl (.inr (0, (0, 0))), []),
  .inr (0, 4, .inl (.inr (0, (0, 0))), []),
  .inr (0, 12, .inl (.inr (0, (0, 0))), []),
  .inr (0, 13, .inl (.inr (0, (0, 0))), []),
  .inr (0, 18, .inl (.inr (0, (0, 0))), []),
  .inr (0, 18, .inl (.inr (0, (0, 0))), []),
  .inr (1, 12, .inl (.inr (0, (0, 0))), []),
  .inr (1, 12, .inl (.inr (0, (0, 0))), []),
  .inr (0, 13, .inl (.inr (0, (0, 0))), []),
  .inr (0, 12, .inl (.inr (0, (0, 0))), []),
  .inr (0, 36, .inl (.inr (0, (0, 0))), []),
  .inr (0, 8, .inl (.inr (0, (0, 0))), [])]
noncomputable def ryZ0 : ry_Z := (ryI0, [], [], 0, 0, 0, [(0, .inr (2, (0, 0)))], [])
noncomputable def ryZ15 : ry_Z := (ryI0, [], ryH, 522, 48932, 15, [(1, .inl (some 0)), (0, .inr (2, (0, 0)))], [.inl (some 480)])
end
section
noncomputable def ry_dV : DecidableEq ry_V := inferInstanceAs (DecidableEq (Option Nat ⊕ (Nat × (Nat × Int))))
noncomputable def ry_dX : DecidableEq ry_X := @instDecidableEqSum _ _ ry_dV (inferInstanceAs (DecidableEq (Nat × Int × Int)))
noncomputable def ry_dO : DecidableEq (List (Nat × ry_V)) := @instDecidableEqList _ (@instDecidableEqProd _ _ inferInstance ry_dV)
noncomputable def ry_dC : DecidableEq ry_C := @instDecidableEqSum _ _ (@instDecidableEqProd _ _ inferInstance (@instDecidableEqList _ ry_dX)) (@instDecidableEqProd _ _ inferInstance (@instDecidableEqProd _ _ inferInstance (@instDecidableEqProd _ _ ry_dX ry_dO)))
noncomputable def ry_dZ : DecidableEq ry_Z := @instDecidableEqProd _ _ (inferInstanceAs (DecidableEq (List (Int × Int)))) (@instDecidableEqProd _ _ (inferInstanceAs (DecidableEq (List (Nat × (Nat × Int) × (Nat × Int))))) (@instDecidableEqProd _ _ (@instDecidableEqList _ ry_dC) (@instDecidableEqProd _ _ inferInstance (@instDecidableEqProd _ _ inferInstance (@instDecidableEqProd _ _ inferInstance (@instDecidableEqProd _ _ ry_dO (@instDecidableEqList _ ry_dV)))))))
noncomputable def ry_isZ (o : Option (List ry_Z)) (z : ry_Z) : Bool := match o with
  | some [w] => @decide (w = z) (ry_dZ w z)
  | _ => false
theorem ry_isZ_ok {o : Option (List ry_Z)} {z : ry_Z} (h : ry_isZ o z = true) : o = some [z] := by
  unfold ry_isZ at h
  split at h
  · rename_i w
    rw [@of_decide_eq_true _ (ry_dZ w z) h]
  · cases h
theorem ry_start : ry_isZ (ry_sg ryCT (fun pc => Nat.beq pc 15) 10000 12 14 ryZ0) ryZ15 = true := by decide +kernel
end
section
theorem ryCls_ok : ∀ q ∈ vwCl, (∀ w ∈ u_ws q.1 q.2.1 q.2.2, w ∈ ryG) ∧ Jvm.Cond.instantiable q.1 q.2.2 ∈ ryG := ry_all_cons (⟨ryLay0, (ry_in (ry_at2 (n := 230) rfl) rfl)⟩) (ry_all_cons (⟨ryLay1, (ry_in (ry_at2 (n := 192) rfl) rfl)⟩) (ry_all_cons (⟨ryLay2, (ry_in (ry_at1 (n := 69) rfl) rfl)⟩) (ry_all_cons (⟨ryLay3, (ry_in (ry_at2 (n := 83) rfl) rfl)⟩) (ry_all_cons (⟨ryLay4, (ry_in (ry_at2 (n := 143) rfl) rfl)⟩) (ry_all_cons (⟨ryLay5, (ry_in (ry_at1 (n := 39) rfl) rfl)⟩) (ry_all_cons (⟨ryLay6, (ry_in (ry_at1 (n := 116) rfl) rfl)⟩) (ry_all_cons (⟨ryLay7, (ry_in (ry_at2 (n := 3) rfl) rfl)⟩) (ry_all_cons (⟨ryLay8, (ry_in (ry_at2 (n := 55) rfl) rfl)⟩) (ry_all_cons (⟨ryLay9, (ry_in (ry_at1 (n := 97) rfl) rfl)⟩) (ry_all_cons (⟨ryLay10, (ry_in (ry_at1 (n := 31) rfl) rfl)⟩) (ry_all_cons (⟨ryLay11, (ry_in (ry_at1 (n := 23) rfl) rfl)⟩) (ry_all_cons (⟨ryLay12, (ry_in (ry_at7 (n := 32) rfl) rfl)⟩) (ry_all_nil)))))))))))))
theorem ryNW_in : ∀ w ∈ ryNW, w ∈ lw_tbl := ry_all_cons (ry_at2 (n := 198) rfl) (ry_all_cons (ry_at2 (n := 9) rfl) (ry_all_cons (ry_at1 (n := 40) rfl) (ry_all_cons (ry_at1 (n := 70) rfl) (ry_all_cons (ry_at1 (n := 117) rfl) (ry_all_cons (ry_at2 (n := 4) rfl) (ry_all_cons (ry_at2 (n := 53) rfl) (ry_all_cons (ry_at2 (n := 56) rfl) (ry_all_cons (ry_at2 (n := 84) rfl) (ry_all_cons (ry_at2 (n := 144) rfl) (ry_all_cons (ry_at2 (n := 193) rfl) (ry_all_cons (ry_at2 (n := 231) rfl) (ry_all_nil))))))))))))
theorem ryNW_ok : ∀ w ∈ ryNW, w.onTables = true ∧ ∀ (s U : State), s.WarmedH U.vm → va_Nw w s → va_Nw w U := ry_all_cons (⟨rfl, fun _ _ => va_Nw.warmM⟩) (ry_all_cons (⟨rfl, fun _ _ => va_Nw.warmM⟩) (ry_all_cons (⟨rfl, fun _ _ => va_Nw.warmM⟩) (ry_all_cons (⟨rfl, fun _ _ => va_Nw.warmM⟩) (ry_all_cons (⟨rfl, fun _ _ => va_Nw.warmM⟩) (ry_all_cons (⟨rfl, fun _ _ => va_Nw.warmM⟩) (ry_all_cons (⟨rfl, fun _ _ => va_Nw.warmM⟩) (ry_all_cons (⟨rfl, fun _ _ => va_Nw.warmM⟩) (ry_all_cons (⟨rfl, fun _ _ => va_Nw.warmM⟩) (ry_all_cons (⟨rfl, fun _ _ => va_Nw.warmM⟩) (ry_all_cons (⟨rfl, fun _ _ => va_Nw.warmM⟩) (ry_all_cons (⟨rfl, fun _ _ => va_Nw.warmM⟩) (ry_all_nil))))))))))))
theorem ryAO_in : ∀ C ∈ ryAO, Jvm.Cond.arrayOver (.object C) ∈ lw_tbl := ry_all_cons (ry_at1 (n := 37) rfl) (ry_all_cons (ry_at1 (n := 96) rfl) (ry_all_cons (ry_at2 (n := 1) rfl) (ry_all_nil)))
end
section
section RYS
variable {G NW : List Jvm.Cond} {AO : List String} {cl : List vw_C} {T : ry_Tb} {nm : Nat → String} {xh : ry_Xh}
variable {p : Program} {l : Launch} {e : Env} {R : Room} {s : State} {m : MethodId} {args : Array Value} {below : List Frame} {meth : Method} {c : Code} {Q : State → Prop}
variable {D : va_G} {A : Nat → Prop} {xa : Nat → Nat} {PX : State → Prop} {ct : Nat → Nat → Option ry_Ent} {cut : Nat → Bool} {mo : Nat → Option (ry_Mt × Bool)}
set_option maxHeartbeats 2000000 in
theorem ry_sgW (hct : ∀ j M lw pc e, mo j = some (M, lw) → ct j pc = some e → ry_entOK xh T lw M pc e) (hmo : ∀ j M, T.2.2.2.2.2 j = some M → mo j = some (M, false)) (hGG : ∀ w ∈ G, goodWord w = true) (hPX : ry_PXOK NW A PX) (t1 : ry_frOK G NW cl nm T) (t2 : ry_crOK G cl nm T) (t3 : ry_arOK G AO cl nm T) (t4 : ry_kcOK G nm T) (t5 : ry_acOK G) (tm : ry_mlOK G nm T) (tc : ry_cjOK G NW cl nm T) (hxh : ry_xhOK xh G NW AO cl nm A xa PX l D) :
    ∀ (f d j : Nat) (lw : Bool) (M : ry_Mt) (z : ry_Z) (zs : List ry_Z), mo j = some (M, lw) → ry_sg ct cut f d j z = some zs → nm M.1 = M.2.2.2.2.1.cls →
    ∀ {H0 H : Heap} {locs : List Loc} {ls : Array Slot} {r : Nat → Int} {ad : Nat → Nat}, ry_Fr G NW AO PX p s m args meth c M → (∀ q, H0.size ≤ q → A q) → H0 = s.heap → M.2.2.2.2.2.2.1 ≤ R.cells → M.2.2.2.2.2.2.2 ≤ R.slots → d ≤ R.frames → d * 40 ≤ R.locals → ry_Scr lw A s xa H0 r → ry_R D cl A s xa M.2.2.1 H0 z r ad H locs ls →
    (∀ z_p ∈ zs, ry_G p l e R s m args below meth c Q D cl A xa M.2.2.1 H0 z.1.length z.2.2.1.length r ad z_p) → W p l e R s m args below meth c H locs z.2.2.2.1 z.2.2.2.2.1 Q (F0 m (ry_zpc z) ls ((ry_zst z).map (ry_iv r ad xa))) := by
  intro f
  induction f with
  | zero =>
    intro d j lw M z zs _ h
    exact absurd (show (none : Option (List ry_Z)) = some zs from h) (fun q => by cases q)
  | succ f ih =>
    intro d j lw M z zs hM h hn H0 H locs ls r ad hF hA hH0 hmc hms hd hdl hscr hR hret
    obtain ⟨I, F, ht, cc, ss, pc, lv, st⟩ := z
    rw [ry_sg] at h
    split at h
    · cases h
      exact hret _ List.mem_cons_self r ad H locs ls (Nat.le_refl _) (Nat.le_refl _) ry_same.rf ry_sameA.rf hR
    · split at h
      · cases h
      · rename_i g hg
        split at h
        · cases h
        · rename_i zs1 hzs1
          obtain ⟨i, len, hdg, hk⟩ := hct j M lw pc _ hM hg
          have hk := (hk d I F ht cc ss lv st).2 zs1 hzs1
          have K : ∀ z_p ∈ zs1, ry_G p l e R s m args below meth c Q D cl A xa M.2.2.1 H0 I.length ht.length r ad z_p := by
            intro z_p hz_p r_p ad_p H_p locs_p ls_p hN hMm hr ha hR_p
            obtain ⟨xs, hx1, hx2⟩ := ry_bind_mem h hz_p
            exact ih d j lw M z_p xs hM hx1 hn hF hA hH0 hmc hms hd hdl (hscr.to hR.1.2.1 hr) hR_p fun z2 hz2 r2 ad2 H2 locs2 ls2 hN2 hM2 hr2 ha2 => hret z2 (hx2 z2 hz2) r2 ad2 H2 locs2 ls2 (Nat.le_trans hN hN2) (Nat.le_trans hMm hM2) (hr.tr hr2 hN) (ha.tr ha2 hMm)
          rcases ry_or_ok hk with h1 | h1
          · exact hxh d M i len _ zs1 h1 hn hF hA hH0 hmc hms hd hdl hdg hR K
          · exact ry_step_ok hF hn t1 t2 t3 t4 t5 hA hmc hms hscr hdg hR h1 K
      · cases h
      · rename_i j_p M_p g hg
        cases d with
        | zero => cases h
        | succ d_p =>
          dsimp only at h
          split at h
          · cases h
          · rename_i as t hast
            split at h
            · cases h
            · rename_i Es_p hEs_p
              obtain ⟨i, len, hdg, hj, hk⟩ := hct j M lw pc _ hM hg
              obtain ⟨q, hprep⟩ := (hk (d_p + 1) I F ht cc ss lv st).2.2 as t hast
              have hex_p := ry_ex2_ok (xh := xh) (T := T) (mo := mo) hct hmo f d_p j_p M_p false _ Es_p (hmo j_p M_p hj) hEs_p
              obtain ⟨as2, hrun⟩ := ry_run (l := l) (D := D) hGG hPX tm tc (ry_goal hGG hPX t1 t2 t3 t4 t5 tm tc hxh f d_p false) hn hF hA hH0 hmc hms hd hdl hR hdg hprep hex_p
              obtain ⟨hW0, hS⟩ := hR.2.2.2.1.to0
              refine ry_call hrun hS (fun _ _ _ h => h.2) fun v st2 tt H1 locs1 ht2 hst hvm hpost hS1 => ?_
              obtain ⟨⟨E, hE, r_p, ad_p, hN, hMm, hsr, hsa, hRE, hov⟩, -⟩ := hpost
              cases hov
              obtain ⟨xs, hx1, hx2⟩ := ry_bind_mem h hE
              obtain ⟨b1, b2, b3, b4, b5⟩ := hRE
              rw [ht2] at b4
              have b4 := b4.moved hvm.symm
              have hstz := ry_stsc hR
              have htsc : ∀ y ∈ t, ry_sc I.length ht.length y := by
                obtain ⟨op, idx, -, -, -, -, -, -, -, hsh⟩ := ry_prep_ok hprep
                intro y hy
                rcases hsh with ⟨-, -, e1⟩ | ⟨-, k, as3, fs, -, -, e1, -⟩
                · exact hstz y (by rw [e1]; exact List.mem_append_right _ hy)
                · exact hstz y (by rw [e1]; exact List.mem_append_right _ (List.mem_cons_of_mem _ hy))
              have hR_p : ry_R D cl A s xa M.2.2.1 H0 (ry_back M_p (I, F, ht, cc, ss, pc, lv, st) t E) r_p ad_p H1 locs1 ls := by
                refine ⟨b1, b2, b3, b4.to hS1, ?_, fun y hy => ry_sc.mono (ry_lvsc hR y hy) hN hMm, fun y hy => ?_⟩
                · have h := ry_lvh hR
                  show lv_has ls M.2.2.1 (ry_lvs r_p ad_p xa (ry_zlv (I, F, ht, cc, ss, pc, lv, st)))
                  rw [ry_lvs_ext (ry_lvsc hR) hsr hsa]
                  exact h
                · rcases List.mem_append.mp hy with h | h
                  · refine b5 y ?_
                    cases hv : E.2.2.2 with
                    | none => rw [hv] at h; exact absurd h List.not_mem_nil
                    | some w =>
                      rw [hv] at h
                      rcases List.mem_cons.mp h with h | h
                      · rw [h]
                      · exact absurd h List.not_mem_nil
                  · exact ry_sc.mono (htsc y h) hN hMm
              have hgo := ih (d_p + 1) j lw M (ry_back M_p (I, F, ht, cc, ss, pc, lv, st) t E) xs hM hx1 hn hF hA hH0 hmc hms hd hdl (hscr.to hR.1.2.1 hsr) hR_p fun z2 hz2 r2 ad2 H2 locs2 ls2 hN2 hM2 hr2 ha2 => hret z2 (hx2 z2 hz2) r2 ad2 H2 locs2 ls2 (Nat.le_trans hN hN2) (Nat.le_trans hMm hM2) (hsr.tr hr2 hN) (hsa.tr ha2 hMm)
              have hstk : (ry_zst (ry_back M_p (I, F, ht, cc, ss, pc, lv, st) t E)).map (ry_iv r_p ad_p xa) = (E.2.2.2.map (ry_iv r_p ad_p xa)).toList ++ t.map (ry_iv r ad xa) := by
                show (E.2.2.2.toList ++ t).map (ry_iv r_p ad_p xa) = _
                rw [List.map_append, ry_toList_map, ry_st_ext htsc hsr hsa]
              rw [hstk] at hgo
              exact hgo
end RYS
end
