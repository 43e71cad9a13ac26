/-! ARRAYS.FILL IS SOUND -/
theorem ry_set_self {α : Type} {x : α} : ∀ {l : List α} {k : Nat}, l[k]? = some x → l.set k x = l
  | [], _, h => by cases h
  | a :: l, 0, h => by
    cases h
    rfl
  | a :: l, k + 1, h => by
    rw [List.set_cons_succ, ry_set_self (l := l) (k := k) h]
def ry_fl (x : Int32) (f : Nat → Int32) (i : Nat) : Nat → Int32 := fun j => if j < i then x else f j
theorem ry_fl_0 {x : Int32} {f : Nat → Int32} : ry_fl x f 0 = f := funext fun j => if_neg (Nat.not_lt_zero j)
theorem ry_fl_succ {x : Int32} {f : Nat → Int32} {i : Nat} : upd (ry_fl x f i) i x = ry_fl x f (i + 1) := by
  funext j
  unfold upd ry_fl
  by_cases h : j = i
  · rw [if_pos h, if_pos (by omega)]
  · rw [if_neg h]
    by_cases h2 : j < i
    · rw [if_pos h2, if_pos (by omega)]
    · rw [if_neg h2, if_neg (by omega)]
theorem ry_fd_0 : decode cJ7_fill_53178 0 = .ok (.iconst 0, 1) := by decide +kernel
theorem ry_fd_1 : decode cJ7_fill_53178 1 = .ok (.istore_n 2, 1) := by decide +kernel
theorem ry_fd_2 : decode cJ7_fill_53178 2 = .ok (.aload_n 0, 1) := by decide +kernel
theorem ry_fd_3 : decode cJ7_fill_53178 3 = .ok (.arraylength, 1) := by decide +kernel
theorem ry_fd_4 : decode cJ7_fill_53178 4 = .ok (.istore_n 3, 1) := by decide +kernel
theorem ry_fd_5 : decode cJ7_fill_53178 5 = .ok (.iload_n 2, 1) := by decide +kernel
theorem ry_fd_6 : decode cJ7_fill_53178 6 = .ok (.iload_n 3, 1) := by decide +kernel
theorem ry_fd_7 : decode cJ7_fill_53178 7 = .ok (.if_icmp .ge 13, 3) := by decide +kernel
theorem ry_fd_10 : decode cJ7_fill_53178 10 = .ok (.aload_n 0, 1) := by decide +kernel
theorem ry_fd_11 : decode cJ7_fill_53178 11 = .ok (.iload_n 2, 1) := by decide +kernel
theorem ry_fd_12 : decode cJ7_fill_53178 12 = .ok (.iload_n 1, 1) := by decide +kernel
theorem ry_fd_13 : decode cJ7_fill_53178 13 = .ok (.iastore, 1) := by decide +kernel
theorem ry_fd_14 : decode cJ7_fill_53178 14 = .ok (.iinc 2 1, 3) := by decide +kernel
theorem ry_fd_17 : decode cJ7_fill_53178 17 = .ok (.goto (-12), 3) := by decide +kernel
theorem ry_fd_20 : decode cJ7_fill_53178 20 = .ok (.return_, 1) := by decide +kernel
section RYL
variable {p : Program} {l : Launch} {e : Env} {R : Room} {s : State} {m : MethodId} {args : Array Value} {below : List Frame} {meth : Method} {c : Code} {Q : State → Prop} {H0 H : Heap} {locs : List Loc} {ls : Array Slot}
variable {D : va_G} {cl : List vw_C} {A : Nat → Prop} {ws : va_W} {tys : List (ClassId × FieldType)} {k n t0 a : Nat} {cA : ClassId} {f : Nat → Int32} {x : Int32} {cells slots : Nat}
theorem ry_fill_loop (hx : p.tables.exec = Jvm.exec) (hb : c.code = cJ7_fill_53178) (hK : va_K D cl tys s) (hw : ws[k]? = some (a, .inl (cA, n, .inl f))) (ht : tys[t0]? = some (cA, .int)) (hn : n < 2000000000)
    (fin : ∀ (H : Heap) (locs : List Loc) (ls : Array Slot), va_P D cl (ws.set k (a, .inl (cA, n, .inl (ry_fl x f n)))) H → va_D A (ws.set k (a, .inl (cA, n, .inl (ry_fl x f n)))) → va_S A H0 H locs → W p l e R s m args below meth c H locs cells slots Q (F0 m 20 ls [])) :
    ∀ (d i : Nat), i + d = n → ∀ (H : Heap) (locs : List Loc) (ls : Array Slot), lv_has ls 4 [(2, .int (nI i)), (3, .int (nI n)), (0, .ref a), (1, .int x)] → va_P D cl (ws.set k (a, .inl (cA, n, .inl (ry_fl x f i)))) H → va_D A (ws.set k (a, .inl (cA, n, .inl (ry_fl x f i)))) → va_S A H0 H locs → W p l e R s m args below meth c H locs cells slots Q (F0 m 5 ls []) := by
  intro d
  induction d with
  | zero =>
    intro i hi H locs ls hl hP hD hS
    have hi : i = n := hi
    subst hi
    refine lv_iload_n hx hb ry_fd_5 rfl (lv_at hl 0 rfl) ?_
    refine lv_iload_n hx hb ry_fd_6 rfl (lv_at hl 1 rfl) ?_
    exact lv_icmp_ge (tgt := 20) hx hb ry_fd_7 rfl (fun _ => fin H locs ls hP hD hS) (fun h => absurd (Int32.le_refl _) h)
  | succ d ih =>
    intro i hi H locs ls hl hP hD hS
    have hlt : i < n := by omega
    have hi31 : i < 2 ^ 31 := by omega
    have hn31 : n < 2 ^ 31 := by omega
    have hk : k < ws.length := (List.getElem?_eq_some_iff.mp hw).1
    refine lv_iload_n hx hb ry_fd_5 rfl (lv_at hl 0 rfl) ?_
    refine lv_iload_n hx hb ry_fd_6 rfl (lv_at hl 1 rfl) ?_
    refine lv_icmp_ge (tgt := 20) hx hb ry_fd_7 rfl (fun h => ?_) (fun _ => ?_)
    · rw [Int32.le_iff_toInt_le, nI_toInt hn31, nI_toInt hi31] at h
      omega
    · refine lv_aload_n hx hb ry_fd_10 rfl (lv_at hl 2 rfl) ?_
      refine lv_iload_n hx hb ry_fd_11 rfl (lv_at hl 0 rfl) ?_
      refine lv_iload_n hx hb ry_fd_12 rfl (lv_at hl 3 rfl) ?_
      refine va_iast hx hb hK hP hD hS k t0 (List.getElem?_set_self hk) ht (vp_in_nI hlt hn31) ry_fd_13 fun H1 locs1 hP1 hD1 hS1 => ?_
      rw [List.set_set, nI_clamp hi31, ry_fl_succ] at hP1 hD1
      refine lv_iinc (v := nI (i + 1)) hx hb ry_fd_14 hl (k := 0) rfl (nI_succ i).symm (by decide) rfl fun ls1 hl1 => ?_
      exact lv_goto (tgt := 5) hx hb ry_fd_17 rfl (ih (i + 1) (by omega) H1 locs1 ls1 hl1 hP1 hD1 hS1)
theorem ry_fill_met (hw : ws[k]? = some (a, .inl (cA, n, .inl f))) (ht : tys[t0]? = some (cA, .int)) (hn : n < 2000000000) :
    Met l yJ7_fill_53178 [.code yJ7_fill_53178 cJ7_fill_53178 4 none] ({ frames := 0, cells := 0, slots := 0, locals := 0 }) (va_Pc [.ref a, .int x] (fun U => va_P D cl ws U.heap ∧ va_K D cl tys U ∧ va_D A ws))
      (va_Qv (fun _ : Unit => True) (fun _ t => va_P D cl (ws.set k (a, .inl (cA, n, .inl (ry_fl x f n)))) t.heap ∧ va_D A (ws.set k (a, .inl (cA, n, .inl (ry_fl x f n))))) A) 0 0 A := by
  refine Met.ofW (cc := cJ7_fill_53178) (maxL := 4) (ret := none) (by decide) rfl ?_
  intro p e s m args below meth c s₁ B hml hv
  obtain ⟨rfl, hP, hK, hD⟩ := hv
  have hx := B.exec
  have hb := B.bytes
  have hr := B.returns
  have hlocks := B.notSynchronized
  have hS : va_S A s.heap s.heap [] := va_S.rf
  have hk : k < ws.length := (List.getElem?_eq_some_iff.mp hw).1
  have hl := lv_entry ([.ref a, .int x]) (n := 4) (Nat.le_of_ble_eq_true rfl)
  rw [lg_entry_eq]
  generalize (lg_sl ([.ref a, .int x]) ++ List.replicate (4 - (lg_sl ([.ref a, .int x])).length) Slot.unset).toArray = ls at hl ⊢
  have hl : lv_has ls 4 [(0, .ref a), (1, .int x)] := hl
  refine lv_iconst (v := nI 0) hx hb ry_fd_0 rfl ?_
  refine lv_istore_n hx hb ry_fd_1 rfl hl (by decide) rfl fun ls1 hl1 => ?_
  refine lv_aload_n hx hb ry_fd_2 rfl (lv_at hl1 1 rfl) ?_
  refine va_alen (v := nI n) hx hb hK hP k t0 hw ht rfl ry_fd_3 ?_
  refine lv_istore_n hx hb ry_fd_4 rfl hl1 (by decide) rfl fun ls2 hl2 => ?_
  have e0 : ws.set k (a, .inl (cA, n, .inl (ry_fl x f 0))) = ws := by
    rw [ry_fl_0]
    exact ry_set_self hw
  refine ry_fill_loop (A := A) (H0 := s.heap) hx hb hK hw ht hn (fun H locs ls hP hD hS => ?_) n 0 (Nat.zero_add n) s.heap [] ls2 ⟨hl2.1, hl2.2.1, fun q hq => hl2.2.2 q ?_⟩ (by rw [e0]; exact hP) (by rw [e0]; exact hD) hS
  · exact W.vret hx hb hr (fun t ht hW => ⟨⟨(), rfl, trivial, by rw [ht]; exact hP, hD⟩, hS.F ht⟩) hS.2.2 ry_fd_20
  · rcases List.mem_cons.mp hq with h | hq
    · subst h; exact List.mem_cons_of_mem _ List.mem_cons_self
    · rcases List.mem_cons.mp hq with h | hq
      · subst h; exact List.mem_cons_self
      · exact List.mem_cons_of_mem _ (List.mem_cons_of_mem _ hq)
end RYL
section RYF
variable {G NW : List Jvm.Cond} {AO : List String} {cl : List vw_C} {nm : Nat → String} {A : Nat → Prop} {xa : Nat → Nat} {PX : State → Prop} {l : Launch} {D : va_G}
variable {p : Program} {e : Env} {R : Room} {s : State} {m : MethodId} {args : Array Value} {below : List Frame} {meth : Method} {c : Code} {Q : State → Prop} {H0 H : Heap} {locs : List Loc} {ls : Array Slot} {r : Nat → Int} {ad : Nat → Nat}
variable {M : ry_Mt} {z : ry_Z} {zs : List ry_Z} {d idx : Nat}
theorem ry_x_fill_ok (hGG : ∀ w ∈ G, goodWord w = true) (hF : ry_Fr G NW AO PX p s m args meth c M) (hn : nm M.1 = M.2.2.2.2.1.cls) (hd : d ≤ R.frames) (hdl : d * 40 ≤ R.locals) (hmc : z.2.2.2.1 ≤ R.cells) (hms : z.2.2.2.2.1 ≤ R.slots) (hw : Jvm.Cond.methodLink (nm M.1) idx yJ7_fill_53178 ∈ G ∧ Jvm.Cond.static yJ7_fill_53178 ∈ G ∧ Jvm.Cond.initialized "java/util/Arrays" ∈ G ∧ Jvm.Cond.code yJ7_fill_53178 cJ7_fill_53178 4 none ∈ G)
    (hdg : decode M.2.1 (ry_zpc z) = .ok (.invokestatic idx, 3)) (hR : ry_R D cl A s xa M.2.2.1 H0 z r ad H locs ls) (hz : ry_x_fill d z = some zs) (K : ∀ z_p ∈ zs, ry_G p l e R s m args below meth c Q D cl A xa M.2.2.1 H0 z.1.length z.2.2.1.length r ad z_p) :
    W p l e R s m args below meth c H locs z.2.2.2.1 z.2.2.2.2.1 Q (F0 m (ry_zpc z) ls ((ry_zst z).map (ry_iv r ad xa))) := by
  unfold ry_x_fill at hz
  split at hz
  · rename_i v t hp1
    split at hz
    · rename_i k t2 hp2
      split at hz
      · rename_i tc n df ov hk
        obtain ⟨h1, hz2⟩ := ry_if_ok hz
        clear hz
        cases hz2
        simp only [Bool.and_eq_true, beq_iff_eq, decide_eq_true_eq] at h1
        obtain ⟨g0, g1, g2, g3⟩ := h1
        subst g0
        have e1 := ry_pi_ok hp1
        have e2 := ry_pr_ok hp2
        subst e2
        have hst := ry_stsc hR
        rw [e1] at hst ⊢
        obtain ⟨hx, hb, hr, hml, hown, hlk, hts, -⟩ := id hF
        rw [hn] at hw
        obtain ⟨ws, tys, hK, hP, hD, hS, hl, hc⟩ := id hR.2.2.2.1
        obtain ⟨hcs0, x0, hw0, hcell0⟩ := hc k _ hk
        obtain ⟨cA, t0, c0, hx0, hty, hsh, hel⟩ := hcell0
        obtain ⟨f, hf⟩ := hsh
        subst hx0; subst hf
        have hMet := ry_fill_met (l := l) (D := D) (cl := cl) (A := A) (x := Int32.ofInt (ry_ev r v)) hw0 hty g3
        have hGI : GoodIn G [Jvm.Cond.code yJ7_fill_53178 cJ7_fill_53178 4 none] := fun w hw2 => by
          rw [List.mem_singleton.mp hw2]
          exact ⟨hw.2.2.2, good_of_word (hGG _ hw.2.2.2)⟩
        have S : CallFix p m c M.2.1 M.2.2.1 s args G M.2.2.2.2.1.cls := ⟨hx, hb, hml, hown, hts⟩
        have hws : ∀ w ∈ [Jvm.Cond.code yJ7_fill_53178 cJ7_fill_53178 4 none], ∀ (a' : Array Value) (U : State), s.WarmedH U.vm → w.before a' U = true := pay_in hts hGI
        have hdesc : ∀ sig, parseMethodDescriptor yJ7_fill_53178.desc = some sig → 2 = sig.parameters.length := fun sig h => by
          have h2 : (parseMethodDescriptor yJ7_fill_53178.desc).map (fun d => d.parameters.length) = some 2 := by decide +kernel
          rw [h] at h2
          exact (Option.some.inj h2).symm
        have hblind : FrameBlind (va_Pc [.ref (ad k), .int (Int32.ofInt (ry_ev r v))] (fun U => va_P D cl ws U.heap ∧ va_K D cl tys U ∧ va_D A ws)) := fun a U g mk h => ⟨h.1, h.2.1, va_K.moved (Vm.Alike.refl U.vm) h.2.2.1, h.2.2.2⟩
        have hp : PreS s H (va_Pc [.ref (ad k), .int (Int32.ofInt (ry_ev r v))] (fun U => va_P D cl ws U.heap ∧ va_K D cl tys U ∧ va_D A ws)) [.ref (ad k), .int (Int32.ofInt (ry_ev r v))] := ⟨hblind, fun U hU hW => ⟨rfl, by rw [hU]; exact hP, va_K.moved hW.alike hK, hD⟩⟩
        have hrest : 2 * (F0 m (ry_zpc z) ls ((ry_zst z).map (ry_iv r ad xa))).monitorRoom + ((t2.map (ry_iv r ad xa)).map fun v => v.category).sum ≤ 8 := lv_room (by rw [ry_cats_sum]; exact g2)
        have hlsz : ls.size = M.2.2.1 := (ry_lvh hR).1
        have hrun := va_runS (g := F0 m (ry_zpc z) ls (.int (Int32.ofInt (ry_ev r v)) :: .ref (ad k) :: t2.map (ry_iv r ad xa))) (rest := t2.map (ry_iv r ad xa)) (cells := z.2.2.2.1) (slots := z.2.2.2.2.1) (below := below) (meth := meth) (e := e) (locs := locs) (n := 2) S hMet ⟨⟨rfl, rfl, Nat.le_trans g1 hd, (by show 8 + (4 + 11) + 0 ≤ R.locals; omega), hws, List.mem_cons_self, hts _ hw.2.2.2, hts _ hw.2.2.1, ⟨by decide +kernel, by decide +kernel⟩, hdesc, hts _ hw.1⟩, hts _ hw.2.1⟩ hp rfl rfl hlsz rfl hrest hdg ⟨hmc, hms⟩
        show W p l e R s m args below meth c H locs z.2.2.2.1 z.2.2.2.2.1 Q (F0 m (ry_zpc z) ls (.int (Int32.ofInt (ry_ev r v)) :: .ref (ad k) :: t2.map (ry_iv r ad xa)))
        refine va_callv hrun hS (fun _ _ h => h) (fun _ h => h) fun u tt H1 locs1 htt hvm _ hB _ _ hS1 => ?_
        obtain ⟨hP1, hD1⟩ := hB
        rw [htt] at hP1
        refine ry_at (K _ List.mem_cons_self) ry_same.rf ry_sameA.rf (ry_R_nxh hR (by rw [List.length_set]) (ry_W_set hK hl hc (fun j hj => ?_) ⟨cA, t0, _, rfl, hty, ⟨_, rfl⟩, fun j hj => ?_⟩ hP1 hD1 hS1) fun y hy => hst y (List.mem_cons_of_mem _ (List.mem_cons_of_mem _ hy))) rfl rfl rfl rfl
        · exact hst _ List.mem_cons_self
        · show Value.int (ry_fl (Int32.ofInt (ry_ev r v)) f n j) = Value.int (Int32.ofInt (ry_ev r v))
          rw [ry_fl, if_pos hj]
      · cases hz
    · cases hz
  · cases hz
end RYF
