section
section RXV
variable {B : bx_B} {G NW : List Jvm.Cond} {AO : List String} {cl : List vw_C} {T : rx_Tb} {nm : Nat → String} {xh : rx_Xh}
noncomputable def rx_Pre (NW : List Jvm.Cond) (AO : List String) (PX : State → Prop) (D : bx_D) (cl : List vw_C) (A : Nat → Prop) (xa : Nat → Nat) (z : rx_Z) (r : Nat → Int) (ad : Nat → Nat) (U : State) : Prop :=
  (∀ w ∈ NW, va_Nw w U) ∧ (∀ C ∈ AO, va_AO C U) ∧ PX U ∧ rx_W0 D cl A U xa z.1.length z.2.2.1 r ad U.heap ∧ ∀ q, U.heap.size ≤ q → A q
noncomputable def rx_Post (D : bx_D) (cl : List vw_C) (A : Nat → Prop) (xa : Nat → Nat) (N : Nat) (r : Nat → Int) (ad : Nat → Nat) (Es : List rx_End) : Array Value → State → Outcome → State → Prop := fun _ st oc t =>
  (∃ E ∈ Es, ∃ r_p : Nat → Int, N ≤ E.1.length ∧ rx_same N r r_p ∧ rx_RE D cl A t xa E r_p ad t.heap ∧ oc = .returned (E.2.2.2.map (rx_iv r_p ad xa))) ∧ va_F A st t
noncomputable def rx_Cut (p : Program) (l : Launch) (e : Env) (R : Room) (s : State) (m : MethodId) (args : Array Value) (below : List Frame) (meth : Method) (c : Code) (Q : State → Prop) (D : bx_D) (cl : List vw_C) (A : Nat → Prop) (xa : Nat → Nat) (nL : Nat) (H0 : Heap) (N0 : Nat) (r0 : Nat → Int) (ad : Nat → Nat) (cut : rx_Z → Bool) : Prop :=
  ∀ z_p : rx_Z, cut z_p = true → ∀ (r_p : Nat → Int) (H_p : Heap) (locs_p : List Loc) (ls_p : Array Slot), N0 ≤ z_p.1.length → rx_same N0 r0 r_p → rx_R D cl A s xa nL H0 z_p r_p ad H_p locs_p ls_p → W p l e R s m args below meth c H_p locs_p z_p.2.2.2.1 z_p.2.2.2.2.1 Q (F0 m (rx_zpc z_p) ls_p ((rx_zst z_p).map (rx_iv r_p ad xa)))
noncomputable def rx_Goal (f d : Nat) (cut : rx_Z → Bool) (B : bx_B) (xh : rx_Xh) (T : rx_Tb) (G NW : List Jvm.Cond) (AO : List String) (cl : List vw_C) (nm : Nat → String) (A : Nat → Prop) (xa : Nat → Nat) (PX : State → Prop) (l : Launch) (D : bx_D) (ad : Nat → Nat) : Prop :=
  ∀ (M : rx_Mt) (z : rx_Z) (Es : List rx_End), rx_exec B xh T cut f d M z = some Es → nm M.1 = M.2.2.2.2.1.cls →
  ∀ {p : Program} {e : Env} {R : Room} {s : State} {m : MethodId} {args : Array Value} {below : List Frame} {meth : Method} {c : Code} {Q : State → Prop} {H0 H : Heap} {locs : List Loc} {ls : Array Slot} {r : Nat → Int} {N0 : Nat} {r0 : Nat → Int},
    rx_Fr G NW AO PX p s m args meth c M → (∀ q, H0.size ≤ q → A q) → H0 = s.heap → M.2.2.2.2.2.2.1 ≤ R.cells → M.2.2.2.2.2.2.2 ≤ R.slots → d ≤ R.frames → d * 40 ≤ R.locals → N0 ≤ z.1.length → rx_same N0 r0 r → rx_Cut p l e R s m args below meth c Q D cl A xa M.2.2.1 H0 N0 r0 ad cut → rx_R D cl A s xa M.2.2.1 H0 z r ad H locs ls →
    (∀ E ∈ Es, ∀ (r_p : Nat → Int) (H_p : Heap) (locs_p : List Loc) (ls_p : Array Slot) (pc_p k_p n_p : Nat), z.1.length ≤ E.1.length → rx_same z.1.length r r_p → rx_RE D cl A s xa E r_p ad H_p → va_S A H0 H_p locs_p → k_p ≤ M.2.2.2.2.2.2.1 → n_p ≤ M.2.2.2.2.2.2.2 → rx_rti M pc_p r_p ad xa E.2.2.2 →
      W p l e R s m args below meth c H_p locs_p k_p n_p Q (F0 m pc_p ls_p (E.2.2.2.toList.map (rx_iv r_p ad xa)))) →
    W p l e R s m args below meth c H locs z.2.2.2.1 z.2.2.2.2.1 Q (F0 m (rx_zpc z) ls ((rx_zst z).map (rx_iv r ad xa)))
theorem rx_toList_map {r : Nat → Int} {ad xa : Nat → Nat} (v : Option rx_V) : (v.map (rx_iv r ad xa)).toList = v.toList.map (rx_iv r ad xa) := by
  cases v <;> rfl
theorem bx_leave {p : Program} {l : Launch} {e : Env} {R : Room} {s : State} {m : MethodId} {args : Array Value} {below : List Frame} {meth : Method} {c : Code} {M : rx_Mt} {Qc : Array Value → State → Outcome → State → Prop} {free : Addr → Prop} {H : Heap} {locs : List Loc} {k n pc : Nat} {ls : Array Slot} {r : Nat → Int} {ad xa : Nat → Nat} {v : Option rx_V} (hx : p.tables.exec = Jvm.exec) (hb : c.code = M.2.1) (hr : meth.sig.returnType = M.2.2.2.1) (hlocks : meth.locks = false)
    (hrt : rx_rti M pc r ad xa v) (hpost : ∀ t : State, t.heap = H → s.WarmedH t.vm → Qc args s (.returned (v.map (rx_iv r ad xa))) t) (hf : ∀ q ∈ locs, free q.base) : W p l e R s m args below meth c H locs k n (MQ below Qc args s k n free) (F0 m pc ls (v.toList.map (rx_iv r ad xa))) := by
  match v, hrt, hpost with
  | none, hrt, hpost => exact W.vret hx hb (hr.trans hrt.2) hpost hf hrt.1
  | some (.inl _), hrt, hpost => exact hrt.elim
  | some (.inr (0, q)), hrt, hpost =>
    obtain ⟨h1, ty, h2, h3⟩ := hrt
    exact W.zret hx hb (hr.trans h2) h3 hpost hf h1
  | some (.inr (1, q)), hrt, hpost => exact W.lret hx hb (hr.trans hrt.2) hpost hf hrt.1
  | some (.inr (2, q)), hrt, hpost => exact hrt.elim
  | some (.inr (_ + 3, q)), hrt, hpost =>
    obtain ⟨h1, ty, h2, h3⟩ := hrt
    exact W.aret hx hb (hr.trans h2) h3 (Or.inr ⟨_, rfl⟩) hpost hf h1
set_option maxHeartbeats 1000000 in
theorem rx_met {A : Nat → Prop} {xa : Nat → Nat} {PX : State → Prop} {l : Launch} {D : bx_D} {ad : Nat → Nat} {f d j : Nat} (hGG : ∀ w ∈ G, goodWord w = true) (tm : rx_mlOK G nm T) (ih : rx_Goal f d (fun _ => false) B xh T G NW AO cl nm A xa PX l D ad) {M_p : rx_Mt} (hj : T.2.2.2.2.2 j = some M_p) {z : rx_Z} {as : List rx_V} {Es : List rx_End} {r : Nat → Int}
    (hex : rx_exec B xh T (fun _ => false) f d M_p (rx_z0 z as) = some Es) (hsat : rx_sat z.1 r) (hfa : rx_facts z.2.1 r) (hfs : rx_fsc z.1.length z.2.1) (has : ∀ v ∈ as, rx_sc z.1.length z.2.2.1.length v) (hcats : rx_cats as ≤ M_p.2.2.1) :
    Met l M_p.2.2.2.2.1 (Jvm.Cond.code M_p.2.2.2.2.1 M_p.2.1 M_p.2.2.1 M_p.2.2.2.1 :: G) { frames := d, cells := M_p.2.2.2.2.2.2.1, slots := M_p.2.2.2.2.2.2.2, locals := d * 40 } (va_Pc (as.map (rx_iv r ad xa)) (rx_Pre NW AO PX D cl A xa z r ad)) (rx_Post D cl A xa z.1.length r ad Es) M_p.2.2.2.2.2.2.1 M_p.2.2.2.2.2.2.2 A := by
  obtain ⟨m1, m2, m3, m4, m5, m6⟩ := tm j M_p hj
  refine Met.ofW (cc := M_p.2.1) (maxL := M_p.2.2.1) (ret := M_p.2.2.2.1) m3 rfl ?_
  intro p e s m args below meth c s₁ B0 hml hv
  obtain ⟨hargs, hnw, hao, hpx, hW0, hA⟩ := hv
  subst hargs
  have hx := B0.exec
  have hb := B0.bytes
  have hr := B0.returns
  have hts0 := atoms_spec (ws := Jvm.Cond.code M_p.2.2.2.2.1 M_p.2.1 M_p.2.2.1 M_p.2.2.2.1 :: G) B0.pre
  have hts : ∀ w ∈ G, w.before (as.map (rx_iv r ad xa)).toArray s = true := fun w hw => hts0 w (List.mem_cons_of_mem _ hw)
  have hown : s.vm.findClass M_p.2.2.2.2.1.cls = some m.cls := findClass_of_methodNamed B0.named
  have hlocks := B0.notSynchronized
  have hname : meth.name = M_p.2.2.2.2.1.name := (name_of_methodNamed B0.named B0.method).1
  have hF : rx_Fr G NW AO PX p s m (as.map (rx_iv r ad xa)).toArray meth c M_p := ⟨hx, hb, hr, hml, hown, hlocks, hts, hnw, hao, hpx, fun hi => hname.trans (m6 hi)⟩
  have hl := lv_entry (as.map (rx_iv r ad xa)) (n := M_p.2.2.1) (by rw [rx_cats_sl]; exact hcats)
  rw [lg_entry_eq]
  generalize (lg_sl (as.map (rx_iv r ad xa)) ++ List.replicate (M_p.2.2.1 - (lg_sl (as.map (rx_iv r ad xa))).length) Slot.unset).toArray = ls at hl ⊢
  rw [← rx_largs_lv] at hl
  have hR0 : rx_R D cl A s xa M_p.2.2.1 s.heap (rx_z0 z as) r ad s.heap [] ls :=
    ⟨hsat, hfa, hfs, hW0.to va_S.rf, hl, fun q hq => has _ (rx_largs_mem hq), fun v hv => absurd hv List.not_mem_nil⟩
  refine ih M_p (rx_z0 z as) Es hex m1 (N0 := 0) (r0 := r) hF hA rfl (Nat.le_refl _) (Nat.le_refl _) (Nat.le_refl _) (Nat.le_refl _) (Nat.zero_le _) rx_same.rf (fun z_p h => absurd h Bool.false_ne_true) hR0 ?_
  intro E hE r_p H_p locs_p ls_p pc_p k_p n_p hN hsr hRE hS hk hn hrt
  have hpost : ∀ t : State, t.heap = H_p → s.WarmedH t.vm → rx_Post D cl A xa z.1.length r ad Es (as.map (rx_iv r ad xa)).toArray s (.returned (E.2.2.2.map (rx_iv r_p ad xa))) t := by
    intro t ht hW
    refine ⟨⟨E, hE, r_p, hN, hsr, ⟨hRE.1, hRE.2.1, hRE.2.2.1, ?_, hRE.2.2.2.2⟩, rfl⟩, hS.F ht⟩
    rw [ht]
    exact hRE.2.2.2.1.moved hW.alike
  exact W.widen hk hn (bx_leave hx hb hr hlocks hrt hpost hS.2.2)
end RXV
end
section
noncomputable def rx_PXOK (NW : List Jvm.Cond) (A : Nat → Prop) (PX : State → Prop) : Prop :=
  (∀ w ∈ NW, w.onTables = true ∧ ∀ (s U : State), s.WarmedH U.vm → va_Nw w s → va_Nw w U) ∧ (∀ (U : State) (g : JFrame) (mk : MethodId) (a : Array Value), PX U → PX (U.calling g mk a)) ∧
  ∀ u U : State, PX u → u.WarmedH U.vm → (∀ a : Nat, a < u.heap.size → ¬ A a → U.heap[a]? = u.heap[a]?) → PX U
noncomputable def rx_xhOK (xh : rx_Xh) (G NW : List Jvm.Cond) (AO : List String) (cl : List vw_C) (nm : Nat → String) (A : Nat → Prop) (xa : Nat → Nat) (PX : State → Prop) (l : Launch) (D : bx_D) (ad : Nat → Nat) (dm : Nat) : Prop :=
  ∀ (d : Nat) (M : rx_Mt) (i : Instr) (len : Nat) (z : rx_Z) (zs : List rx_Z), d ≤ dm → xh d M i len z = some zs → nm M.1 = M.2.2.2.2.1.cls →
  ∀ {p : Program} {e : Env} {R : Room} {s : State} {m : MethodId} {args : Array Value} {below : List Frame} {meth : Method} {c : Code} {Q : State → Prop} {H0 H : Heap} {locs : List Loc} {ls : Array Slot} {r : Nat → Int},
    rx_Fr G NW AO PX p s m args meth c M → (∀ q, H0.size ≤ q → A q) → H0 = s.heap → M.2.2.2.2.2.2.1 ≤ R.cells → M.2.2.2.2.2.2.2 ≤ R.slots → d ≤ R.frames → d * 40 ≤ R.locals → decode M.2.1 (rx_zpc z) = .ok (i, len) → rx_R D cl A s xa M.2.2.1 H0 z r ad H locs ls →
    (∀ z_p ∈ zs, rx_G p l e R s m args below meth c Q D cl A xa M.2.2.1 H0 z.1.length z.2.2.1.length r ad z_p) →
    W p l e R s m args below meth c H locs z.2.2.2.1 z.2.2.2.2.1 Q (F0 m (rx_zpc z) ls ((rx_zst z).map (rx_iv r ad xa)))
theorem rx_rcv_ok {B : bx_B} {ht : List rx_C} {ci : Nat} {k : rx_E} {t t2 : List rx_V} (h : rx_rcv B ht ci t = some (k, t2)) : t = .inr (3, k) :: t2 ∧ ∃ (d : Option Nat) (tcs : List Nat), bx_dm ht k.1 = some d ∧ B.1.1 d k.2 = some (.inl (ci, tcs)) := by
  unfold rx_rcv at h
  split at h
  · rename_i e t0 hpr
    split at h
    · rename_i d hd
      split at h
      · rename_i ci_p tcs hht
        obtain ⟨h1, h2⟩ := rx_ifn h
        cases h2
        subst h1
        exact ⟨bx_pp_ok hpr, d, tcs, hd, hht⟩
      · cases h
    · cases h
  · cases h
theorem rx_prep_ok {B : bx_B} {T : rx_Tb} {M M_p : rx_Mt} {i : Instr} {len : Nat} {z : rx_Z} {q : rx_J} {as t : List rx_V} (h : rx_prep B T M i len z = some (q, M_p, as, t)) :
    ∃ op idx, rx_cidx i = some (op, idx) ∧ len = 3 ∧ T.2.2.2.2.1 M.1 idx = some q ∧ T.2.2.2.2.2 q.2.2.2 = some M_p ∧ q.1 % 3 = op ∧ q.1 < 6 ∧ rx_may M M_p z as t = true ∧
      ((op = 1 ∧ as.length = q.2.1 ∧ rx_zst z = as.reverse ++ t) ∨ (op ≠ 1 ∧ ∃ (k : rx_E) (as2 : List rx_V) (d : Option Nat) (tcs : List Nat), as = .inr (3, k) :: as2 ∧ as2.length = q.2.1 ∧ rx_zst z = as2.reverse ++ .inr (3, k) :: t ∧ bx_dm z.2.2.1 k.1 = some d ∧ B.1.1 d k.2 = some (.inl (q.2.2.1, tcs)))) := by
  unfold rx_prep at h
  split at h
  · cases h
  · rename_i op idx hc
    split at h
    · cases h
    · rename_i q0 hq
      split at h
      · rename_i M0 as0 t0 hM hta
        obtain ⟨h1, h2⟩ := rx_if_ok h
        rw [Bool.and_eq_true, Bool.and_eq_true, beq_iff_eq, beq_iff_eq, decide_eq_true_eq] at h1
        obtain ⟨hl, ho, h6⟩ := h1
        obtain ⟨g1, g2⟩ := rx_take_ok hta
        rw [List.length_nil, Nat.add_zero] at g1
        rw [List.reverse_nil, List.nil_append] at g2
        split at h2
        · rename_i hop
          obtain ⟨h3, h4⟩ := rx_if_ok h2
          cases h4
          exact ⟨op, idx, hc, hl, hq, hM, ho, h6, h3, Or.inl ⟨hop, g1, g2⟩⟩
        · rename_i hop
          split at h2
          · rename_i k t2 hrc
            obtain ⟨h3, h4⟩ := rx_if_ok h2
            cases h4
            obtain ⟨k1, d, tcs, k2, k3⟩ := rx_rcv_ok hrc
            exact ⟨op, idx, hc, hl, hq, hM, ho, h6, h3, Or.inr ⟨hop, k, as0, d, tcs, rfl, g1, by rw [g2, k1], k2, k3⟩⟩
          · cases h2
      · cases h
theorem rx_cidx_ok {i : Instr} {op idx : Nat} (h : rx_cidx i = some (op, idx)) : (op = 0 ∧ i = .invokevirtual idx) ∨ (op = 1 ∧ i = .invokestatic idx) ∨ (op = 2 ∧ i = .invokespecial idx) := by
  unfold rx_cidx at h
  split at h
  · cases h; exact Or.inl ⟨rfl, rfl⟩
  · cases h; exact Or.inr (Or.inl ⟨rfl, rfl⟩)
  · cases h; exact Or.inr (Or.inr ⟨rfl, rfl⟩)
  · cases h
section RXG
variable {B : bx_B} {G NW : List Jvm.Cond} {AO : List String} {cl : List vw_C} {T : rx_Tb} {nm : Nat → String} {xh : rx_Xh}
variable {p : Program} {l : Launch} {e : Env} {R : Room} {s : State} {m : MethodId} {args : Array Value} {below : List Frame} {meth : Method} {c : Code} {Q : State → Prop}
variable {D : bx_D} {A : Nat → Prop} {xa : Nat → Nat} {H0 H : Heap} {locs : List Loc} {ls : Array Slot} {r : Nat → Int} {ad : Nat → Nat} {PX : State → Prop}
theorem rx_blind {z : rx_Z} {as : List Value} (hPX : rx_PXOK NW A PX) : FrameBlind (va_Pc as (rx_Pre NW AO PX D cl A xa z r ad)) := fun a U g mk h => by
  obtain ⟨h0, h1, h2, h3, h4, h5⟩ := h
  exact ⟨h0, fun w hw => va_Nw.same (u := U) (U := U.calling g mk a) (hPX.1 w hw).1 rfl (h1 w hw), fun C hC => va_AO.moved (Vm.Alike.refl U.vm) (h2 C hC), hPX.2.1 U g mk a h3, h4.moved (U := U.calling g mk a) (Vm.Alike.refl U.vm), h5⟩
theorem rx_pre_at {z : rx_Z} {M : rx_Mt} (hPX : rx_PXOK NW A PX) (hF : rx_Fr G NW AO PX p s m args meth c M) (hA : ∀ q, H0.size ≤ q → A q) (hH0 : H0 = s.heap) (hR : rx_R D cl A s xa M.2.2.1 H0 z r ad H locs ls) (U : State) (hU : U.heap = H) (hW : s.WarmedH U.vm) : rx_Pre NW AO PX D cl A xa z r ad U := by
  obtain ⟨hW0, hS⟩ := hR.2.2.2.1.to0
  refine ⟨fun w hw => (hPX.1 w hw).2 s U hW (hF.2.2.2.2.2.2.2.1 w hw), fun C hC => va_AO.moved hW.alike (hF.2.2.2.2.2.2.2.2.1 C hC), hPX.2.2 s U hF.2.2.2.2.2.2.2.2.2.1 hW (fun a h1 h2 => ?_), ?_, fun q hq => hA q ?_⟩
  · rw [hU, ← hH0]
    exact hS.2.1 a (by rw [hH0]; exact h1) h2
  · rw [hU]
    exact hW0.moved hW.alike
  · rw [hU] at hq
    exact Nat.le_trans hS.1 hq
theorem bx_call {z : rx_Z} {M M_p : rx_Mt} {i : Instr} {len d : Nat} {q : rx_J} {as t : List rx_V} {Pb : State → Prop} {Qc : Array Value → State → Outcome → State → Prop} {free : Addr → Prop} (hGG : ∀ w ∈ G, goodWord w = true) (tm : rx_mlOK G nm T) (tc : rx_cjOK G NW cl nm T) (hV : bx_VOK D.2.1 B.1) (hn : nm M.1 = M.2.2.2.2.1.cls)
    (hF : rx_Fr G NW AO PX p s m args meth c M) (hmc : M.2.2.2.2.2.2.1 ≤ R.cells) (hms : M.2.2.2.2.2.2.2 ≤ R.slots) (hd : d + 1 ≤ R.frames) (hdl : (d + 1) * 40 ≤ R.locals) (hR : rx_R D cl A s xa M.2.2.1 H0 z r ad H locs ls) (hdg : decode M.2.1 (rx_zpc z) = .ok (i, len))
    (hprep : rx_prep B T M i len z = some (q, M_p, as, t))
    (hMet : Met l M_p.2.2.2.2.1 (Jvm.Cond.code M_p.2.2.2.2.1 M_p.2.1 M_p.2.2.1 M_p.2.2.2.1 :: G) { frames := d, cells := M_p.2.2.2.2.2.2.1, slots := M_p.2.2.2.2.2.2.2, locals := d * 40 } (va_Pc (as.map (rx_iv r ad xa)) Pb) Qc M_p.2.2.2.2.2.2.1 M_p.2.2.2.2.2.2.2 free)
    (hblind : FrameBlind (va_Pc (as.map (rx_iv r ad xa)) Pb)) (hpre : ∀ U : State, U.heap = H → s.WarmedH U.vm → Pb U) :
    va_Run p l e R s m args below meth c H locs z.2.2.2.1 z.2.2.2.2.1 M_p.2.2.2.2.2.2.1 M_p.2.2.2.2.2.2.2 (F0 m (rx_zpc z) ls ((rx_zst z).map (rx_iv r ad xa))) (t.map (rx_iv r ad xa)) (Qc (as.map (rx_iv r ad xa)).toArray) free := by
  obtain ⟨op, idx, hci, hlen, hq, hM_p, hop, h6, hmay, hshape⟩ := rx_prep_ok hprep
  subst hlen
  unfold rx_may at hmay
  simp only [Bool.and_eq_true, decide_eq_true_eq] at hmay
  obtain ⟨y1, y2, y3, y4, y5⟩ := hmay
  obtain ⟨m1, m2, m3, m4, m5, m6⟩ := tm _ _ hM_p
  obtain ⟨c1, c2, c3, c4, c5, c6, c7⟩ := tc _ _ _ _ hq hM_p
  rw [hn] at c2 c3
  obtain ⟨hx, hb, hr, hml, hown, hlk, hts, hnw, hao, hpx, hini⟩ := id hF
  have hGI : GoodIn G (Jvm.Cond.code M_p.2.2.2.2.1 M_p.2.1 M_p.2.2.1 M_p.2.2.2.1 :: G) := fun w hw => by
    rcases List.mem_cons.mp hw with h | h
    · subst h; exact ⟨m2, good_of_word (hGG _ m2)⟩
    · exact ⟨h, good_of_word (hGG _ h)⟩
  have S : CallFix p m c M.2.1 M.2.2.1 s args G M.2.2.2.2.1.cls := ⟨hx, hb, hml, hown, hts⟩
  have hroomF : d + 1 ≤ R.frames ∧ 8 + (M_p.2.2.1 + 11) + d * 40 ≤ R.locals := ⟨hd, by omega⟩
  have hdesc : ∀ sig, parseMethodDescriptor M_p.2.2.2.2.1.desc = some sig → q.2.1 = sig.parameters.length := fun sig h => by
    rw [h] at c1
    exact (Option.some.inj c1).symm
  have hws : ∀ w ∈ (Jvm.Cond.code M_p.2.2.2.2.1 M_p.2.1 M_p.2.2.1 M_p.2.2.2.1 :: G), ∀ (a_p : Array Value) (U : State), s.WarmedH U.vm → w.before a_p U = true := pay_in hts hGI
  have hrest : 2 * (F0 m (rx_zpc z) ls ((rx_zst z).map (rx_iv r ad xa))).monitorRoom + ((t.map (rx_iv r ad xa)).map fun v => v.category).sum ≤ 8 := lv_room (by rw [rx_cats_sum]; exact y1)
  have hf : z.2.2.2.1 + M_p.2.2.2.2.2.2.1 ≤ R.cells ∧ z.2.2.2.2.1 + M_p.2.2.2.2.2.2.2 ≤ R.slots := ⟨Nat.le_trans y4 hmc, Nat.le_trans y5 hms⟩
  have hlsz : ls.size = M.2.2.1 := (rx_lvh hR).1
  rcases hshape with ⟨ho, hlen, hstk⟩ | ⟨ho, k, as2, dd, tcs, hase, hlen, hstk, hkd, hkc⟩
  · -- static
    have hi : i = .invokestatic idx := by
      rcases rx_cidx_ok hci with ⟨h, -⟩ | ⟨-, h⟩ | ⟨h, -⟩
      · omega
      · exact h
      · omega
    subst hi
    have hstk2 : (F0 m (rx_zpc z) ls ((rx_zst z).map (rx_iv r ad xa))).stack = (as.map (rx_iv r ad xa)).reverse ++ t.map (rx_iv r ad xa) := by
      show (rx_zst z).map (rx_iv r ad xa) = _
      rw [hstk, List.map_append, List.map_reverse]
    have hlen2 : (as.map (rx_iv r ad xa)).length = q.2.1 := by rw [List.length_map]; exact hlen
    have hstat := hts _ (c4 (hop.trans ho))
    have hp : PreS s H (va_Pc (as.map (rx_iv r ad xa)) Pb) (as.map (rx_iv r ad xa)) := ⟨hblind, fun U hU hW => ⟨rfl, hpre U hU hW⟩⟩
    by_cases h3 : q.1 < 3
    · exact va_runS S hMet ⟨⟨rfl, rfl, hroomF.1, hroomF.2, hws, List.mem_cons_self, hts _ m2, hts _ m4, m5, hdesc, hts _ (c2 h3)⟩, hstat⟩ hp rfl hlen2 hlsz hstk2 hrest hdg hf
    · obtain ⟨host, hh⟩ := c3 (Nat.le_of_not_lt h3)
      exact va_runSN (host := host) S hMet ⟨⟨⟨rfl, rfl, hroomF.1, hroomF.2, hws, List.mem_cons_self⟩, hts _ m2, hts _ m4, m5, hdesc, va_Nw.use rfl (hnw _ hh)⟩, hstat, trivial⟩ hp rfl hlen2 hlsz hstk2 hrest hdg hf
  · -- with a receiver
    subst hase
    obtain ⟨hinm, F, N, hcl⟩ := c5 (by rw [hop]; exact ho)
    have hinst := hts _ hinm
    have hstk2 : (F0 m (rx_zpc z) ls ((rx_zst z).map (rx_iv r ad xa))).stack = (as2.map (rx_iv r ad xa)).reverse ++ .ref (ad (rx_ev r k).toNat) :: t.map (rx_iv r ad xa) := by
      show (rx_zst z).map (rx_iv r ad xa) = _
      rw [hstk, List.map_append, List.map_reverse]
      rfl
    have hlen2 : (as2.map (rx_iv r ad xa)).length = q.2.1 := by rw [List.length_map]; exact hlen
    have hpc : ∀ U : State, U.heap = H → s.WarmedH U.vm → va_Pc ((Sum.inr (3, k) :: as2).map (rx_iv r ad xa)) Pb (Value.ref (ad (rx_ev r k).toNat) :: as2.map (rx_iv r ad xa)).toArray U := fun U hU hW => ⟨rfl, hpre U hU hW⟩
    obtain ⟨SS, ⟨ws, tys, hInv, hK, hP, hD, hl, hcell⟩, hS, hsm, hkn⟩ := id hR.2.2.2.1
    have hin := bx_dm_ok hR.1 hkn hkd
    obtain ⟨p1, p2, p3⟩ := hV.1 dd k.2 _ hkc _ hin
    obtain ⟨e0, hw, hce⟩ := hcell _ p2
    rw [p3] at hce
    obtain ⟨vs, he0, -, -⟩ := hce
    subst he0
    have hrecv := va_recv hK hP hcl hw
    have hpV : PreV s H M_p.2.2.2.2.1.cls (ad (rx_ev r k).toNat) (va_Pc ((Sum.inr (3, k) :: as2).map (rx_iv r ad xa)) Pb) (as2.map (rx_iv r ad xa)) := ⟨hblind, hrecv, hpc⟩
    rcases rx_cidx_ok hci with ⟨h0, hi⟩ | ⟨h0, -⟩ | ⟨h0, hi⟩
    · subst hi
      have hsel := hts _ (c6 (hop.trans h0))
      by_cases h3 : q.1 < 3
      · exact va_runV S hMet ⟨⟨rfl, rfl, hroomF.1, hroomF.2, hws, List.mem_cons_self, hts _ m2, hts _ m4, m5, hdesc, hts _ (c2 h3)⟩, hinst, hsel⟩ hpV rfl hlen2 hlsz hstk2 hrest hdg hf
      · obtain ⟨host, hh⟩ := c3 (Nat.le_of_not_lt h3)
        exact va_runVN (host := host) S hMet ⟨⟨⟨rfl, rfl, hroomF.1, hroomF.2, hws, List.mem_cons_self⟩, hts _ m2, hts _ m4, m5, hdesc, va_Nw.use rfl (hnw _ hh)⟩, hinst, hsel⟩ hpV rfl hlen2 hlsz hstk2 hrest hdg hf
    · exact absurd h0 ho
    · subst hi
      obtain ⟨hy1, hret⟩ := c7 (hop.trans h0)
      have hpS : PreS s H (va_Pc ((Sum.inr (3, k) :: as2).map (rx_iv r ad xa)) Pb) (.ref (ad (rx_ev r k).toNat) :: as2.map (rx_iv r ad xa)) := ⟨hblind, hpc⟩
      have hcode2 := hts _ m2
      rw [hret] at hcode2 hMet hws
      by_cases h3 : q.1 < 3
      · exact va_runI S hMet ⟨⟨rfl, rfl, hroomF.1, hroomF.2, hws, List.mem_cons_self, hcode2, hts _ m4, m5, hdesc, hts _ (c2 h3)⟩, hy1, hinst⟩ hpS rfl hlen2 hlsz hstk2 hrest hdg hf
      · obtain ⟨host, hh⟩ := c3 (Nat.le_of_not_lt h3)
        exact va_runIN (host := host) S hMet ⟨⟨⟨rfl, rfl, hroomF.1, hroomF.2, hws, List.mem_cons_self⟩, hcode2, hts _ m4, m5, hdesc, va_Nw.use rfl (hnw _ hh)⟩, hy1, hinst⟩ hpS rfl hlen2 hlsz hstk2 hrest hdg hf
theorem rx_prep_sc {M M_p : rx_Mt} {i : Instr} {len : Nat} {z : rx_Z} {q : rx_J} {as t : List rx_V} (hR : rx_R D cl A s xa M.2.2.1 H0 z r ad H locs ls) (hprep : rx_prep B T M i len z = some (q, M_p, as, t)) : (∀ v ∈ as, rx_sc z.1.length z.2.2.1.length v) ∧ (∀ v ∈ t, rx_sc z.1.length z.2.2.1.length v) ∧ rx_cats as ≤ M_p.2.2.1 ∧ len = 3 ∧ T.2.2.2.2.2 q.2.2.2 = some M_p := by
  obtain ⟨op, idx, hci, hlen, hq, hM_p, hop, h6, hmay, hshape⟩ := rx_prep_ok hprep
  have hst := rx_stsc hR
  unfold rx_may at hmay
  simp only [Bool.and_eq_true, decide_eq_true_eq] at hmay
  refine ⟨fun v hv => ?_, fun y hy => ?_, hmay.2.1, hlen, hM_p⟩
  · rcases hshape with ⟨-, -, e1⟩ | ⟨-, k, as2, dd, tcs, e0, -, e1, -, -⟩
    · exact hst v (by rw [e1]; exact List.mem_append_left _ (List.mem_reverse.mpr hv))
    · rw [e0] at hv
      rcases List.mem_cons.mp hv with h | h
      · exact hst v (by rw [e1, h]; exact List.mem_append_right _ List.mem_cons_self)
      · exact hst v (by rw [e1]; exact List.mem_append_left _ (List.mem_reverse.mpr h))
  · rcases hshape with ⟨-, -, e1⟩ | ⟨-, k, as3, dd, tcs, -, -, e1, -, -⟩
    · exact hst y (by rw [e1]; exact List.mem_append_right _ hy)
    · exact hst y (by rw [e1]; exact List.mem_append_right _ (List.mem_cons_of_mem _ hy))
set_option maxHeartbeats 2000000 in
theorem rx_goal {dm : Nat} (hGG : ∀ w ∈ G, goodWord w = true) (hPX : rx_PXOK NW A PX) (t1 : rx_frOK G NW cl nm T) (t4 : rx_kcOK G nm T) (tm : rx_mlOK G nm T) (tc : rx_cjOK G NW cl nm T) (hV : bx_VOK D.2.1 B.1) (hnp : B.2.1 = D.2.1.2.1) (hdm : B.2.2.1 = D.2.1.2.2.2) (hmd : B.2.2.2 = D.2.2.2) (hxh : rx_xhOK xh G NW AO cl nm A xa PX l D ad dm) : ∀ (f d : Nat) (_ : d ≤ dm) (cut : rx_Z → Bool), rx_Goal f d cut B xh T G NW AO cl nm A xa PX l D ad := by
  intro f
  induction f with
  | zero =>
    intro d _ cut M z Es hex
    exact absurd (show (none : Option (List rx_End)) = some Es from hex) (fun q => by cases q)
  | succ f ih =>
    intro d hdm2 cut M z Es hex hn p e R s m args below meth c Q H0 H locs ls r N0 r0 hF hA hH0 hmc hms hd hdl hN0 hr0 hcut hR hret
    rw [rx_exec] at hex
    split at hex
    · cases hex
    · rename_i i len hdg
      split at hex
      · rename_i E hE
        cases hex
        obtain ⟨a1, a2, a3, a4, a5, a6, a7⟩ := rx_retk_ok (r := r) (ad := ad) (xa := xa) hR.1 hE hdg
        obtain ⟨hW0, hS⟩ := hR.2.2.2.1.to0
        obtain ⟨eI, eF, eh, ev⟩ := E
        dsimp only at a1 a2 a3 a4 a7
        subst a1; subst a2; subst a3
        rw [a4]
        refine hret _ List.mem_cons_self r H locs ls (rx_zpc z) z.2.2.2.1 z.2.2.2.2.1 (Nat.le_refl _) rx_same.rf ⟨hR.1, hR.2.1, hR.2.2.1, hW0, fun v hv => rx_stsc hR v ?_⟩ hS a5 a6 a7
        rw [a4]
        have hv2 : ev = some v := hv
        rw [hv2]
        exact List.mem_cons_self
      · split at hex
        · rename_i zs hzs
          have K : ∀ z_p ∈ zs, rx_G p l e R s m args below meth c Q D cl A xa M.2.2.1 H0 z.1.length z.2.2.1.length r ad z_p := by
            intro z_p hz_p r_p ad_p H_p locs_p ls_p hN _ hr ha hR_p
            have ha2 : ad_p = ad := ha
            subst ha2
            obtain ⟨xs, hx1, hx2⟩ := rx_bind_ok hex z_p hz_p
            split at hx1
            · rename_i hc
              exact hcut z_p hc r_p H_p locs_p ls_p (Nat.le_trans hN0 hN) (hr0.tr hr hN0) hR_p
            · exact ih d hdm2 cut M z_p xs hx1 hn hF hA hH0 hmc hms hd hdl (Nat.le_trans hN0 hN) (hr0.tr hr hN0) hcut hR_p fun E hE r2 H2 locs2 ls2 pc2 k2 n2 hN2 hr2 => hret E (hx2 E hE) r2 H2 locs2 ls2 pc2 k2 n2 (Nat.le_trans hN hN2) (hr.tr hr2 hN)
          rcases rx_or_ok hzs with h | h
          · exact hxh d M i len z zs hdm2 h hn hF hA hH0 hmc hms hd hdl hdg hR K
          · exact rx_step_ok hF hn t1 t4 hV hnp hdm hmd hdg hR h K
        · split at hex
          · cases hex
          · rename_i d_p hno
            split at hex
            · cases hex
            · rename_i q M_p as t hprep
              split at hex
              · cases hex
              · rename_i Es_p hex_p
                obtain ⟨has, htsc, hcats, hlen3, hM_p⟩ := rx_prep_sc hR hprep
                subst hlen3
                have hMet := rx_met (l := l) (D := D) (ad := ad) hGG tm (ih d_p (by omega) (fun _ => false)) hM_p hex_p hR.1 hR.2.1 hR.2.2.1 has hcats
                have hrun := bx_call (l := l) (D := D) (below := below) (e := e) hGG tm tc hV hn hF hmc hms hd hdl hR hdg hprep hMet (rx_blind hPX) (rx_pre_at hPX hF hA hH0 hR)
                obtain ⟨hW0, hS⟩ := hR.2.2.2.1.to0
                refine rx_call hrun hS (fun _ _ _ h => h.2) fun v st tt H1 locs1 ht hst hvm hpost hS1 => ?_
                obtain ⟨⟨E, hE, r_p, hN, hsr, hRE, hov⟩, -⟩ := hpost
                cases hov
                obtain ⟨xs, hx1, hx2⟩ := rx_bind_ok hex E hE
                obtain ⟨b1, b2, b3, b4, b5⟩ := hRE
                rw [ht] at b4
                have b4 := b4.moved hvm.symm
                have hR_p : rx_R D cl A s xa M.2.2.1 H0 (rx_back M_p z t E) r_p ad H1 locs1 ls := by
                  refine ⟨b1, b2, b3, b4.to hS1, ?_, fun y hy => rx_sc.any (rx_sc.mono (M_p := 0) (rx_lvsc hR y hy) hN trivial), fun y hy => ?_⟩
                  · have h := rx_lvh hR
                    show lv_has ls M.2.2.1 (rx_lvs r_p ad xa (rx_zlv z))
                    rw [rx_lvs_ext (rx_lvsc hR) hsr rx_sameA.rf]
                    exact h
                  · rcases List.mem_append.mp hy with h | h
                    · refine b5 y ?_
                      cases hv : E.2.2.2 with
                      | none => rw [hv] at h; exact absurd h List.not_mem_nil
                      | some w =>
                        rw [hv] at h
                        rcases List.mem_cons.mp h with h | h
                        · rw [h]
                        · exact absurd h List.not_mem_nil
                    · exact rx_sc.any (rx_sc.mono (M_p := 0) (htsc y h) hN trivial)
                have hgo := ih (d_p + 1) hdm2 cut M (rx_back M_p z t E) xs hx1 hn hF hA hH0 hmc hms hd hdl (Nat.le_trans hN0 hN) (hr0.tr hsr hN0) hcut hR_p fun E2 hE2 r2 H2 locs2 ls2 pc2 k2 n2 hN2 hr2 => hret E2 (hx2 E2 hE2) r2 H2 locs2 ls2 pc2 k2 n2 (Nat.le_trans hN hN2) (hsr.tr hr2 hN)
                have hstk : (rx_zst (rx_back M_p z t E)).map (rx_iv r_p ad xa) = (E.2.2.2.map (rx_iv r_p ad xa)).toList ++ t.map (rx_iv r ad xa) := by
                  show (E.2.2.2.toList ++ t).map (rx_iv r_p ad xa) = _
                  rw [List.map_append, rx_toList_map, rx_st_ext htsc hsr rx_sameA.rf]
                rw [hstk] at hgo
                exact hgo
end RXG
end
section
noncomputable def bx_sE (σ : List rx_E) (e : rx_E) : rx_E := match σ[e.1]? with
  | some a => (a.1, a.2 + e.2)
  | none => (0, 0)
noncomputable def bx_sV (σ : List rx_E) (v : rx_V) : rx_V := match v with
  | .inl o => .inl o
  | .inr (2, e) => .inr (2, (0, e.2))
  | .inr (k, e) => .inr (k, bx_sE σ e)
noncomputable def bx_eqE (I : rx_I) (a b : rx_E) : Bool := (rx_nm I a).1 == (rx_nm I b).1 && (rx_nm I a).2 == (rx_nm I b).2
noncomputable def bx_eqV (I : rx_I) (v w : rx_V) : Bool := match v, w with
  | .inl none, .inl none => true
  | .inr (0, a), .inr (0, b) => bx_eqE I a b
  | .inr (1, a), .inr (1, b) => bx_eqE I a b
  | .inr (2, a), .inr (2, b) => a.2 == b.2
  | .inr (3, a), .inr (3, b) => bx_eqE I a b
  | _, _ => false
noncomputable def bx_ent (I : rx_I) (F : rx_F) (c : Nat) (a b : rx_E) : Bool := match rx_bd I a, rx_bd I b with
  | some (al, ah), some (bl, bh) => (match c with
    | 0 => (rx_asm I F 1 b a bl bh al ah).isNone
    | 1 => (rx_asm I F 0 b a bl bh al ah).isNone
    | _ => false)
  | _, _ => false
noncomputable def bx_subI (I : rx_I) (σ : List rx_E) : List (Int × Int) → List rx_E → Bool
  | [], [] => true
  | b :: bs, e :: es => (match rx_bd I e with
    | some (lo, hi) => decide (b.1 ≤ lo) && decide (hi ≤ b.2)
    | none => false) && bx_subI I σ bs es
  | _, _ => false
noncomputable def bx_subH (dmf : Nat → Int → Bool) (I : rx_I) (ht : List rx_C) (σ : List rx_E) (q : rx_C) : Bool :=
  if 1000000 ≤ q.1.2 then (((bx_sE σ q.1.1).1 == 0 && dmf (q.1.2 - 1000000) (bx_sE σ q.1.1).2) || ((bx_sE σ q.1.1).2 == 0 && bx_fd ht (bx_sE σ q.1.1).1 == some (q.1.2 - 1000000)))
  else (match bx_ck ht (bx_sE σ q.1.1) q.1.2 with
    | some v => bx_eqV I v (bx_sV σ q.2)
    | none => false)
noncomputable def bx_subS (I : rx_I) (σ : List rx_E) : List rx_V → List rx_V → Bool
  | [], [] => true
  | v :: vs, w :: ws => bx_eqV I v (bx_sV σ w) && bx_subS I σ vs ws
  | _, _ => false
noncomputable def bx_scV (N : Nat) (v : rx_V) : Bool := match v with
  | .inl none => true
  | .inl (some _) => false
  | .inr (_, e) => decide (e.1 < N)
noncomputable def bx_subF (I : rx_I) (F : rx_F) (σ : List rx_E) (N : Nat) (f : Nat × rx_E × rx_E) : Bool := decide (f.2.1.1 < N) && (decide (f.2.2.1 < N) && (if f.1 ≤ 1 then bx_ent I F f.1 (bx_sE σ f.2.1) (bx_sE σ f.2.2)
  else (decide (4 ≤ f.1) && (decide (f.1 < 1000000) && F.any (fun g => g.1 == f.1 && (bx_eqE I g.2.1 (bx_sE σ f.2.1) && bx_eqE I g.2.2 (bx_sE σ f.2.2)))))))
noncomputable def bx_sub (dmf : Nat → Int → Bool) (σ : List rx_E) (z y : rx_Z) : Bool :=
  (match σ with
    | (0, 0) :: _ => true
    | _ => false) && (decide (8 ≤ y.1.length) && (bx_subI z.1 σ y.1 σ && (y.2.1.all (bx_subF z.1 z.2.1 σ y.1.length) && (y.2.2.1.all (fun q => decide (q.1.1.1 < y.1.length) && (bx_scV y.1.length q.2 && bx_subH dmf z.1 z.2.2.1 σ q)) && (z.2.2.2.1 == y.2.2.2.1 && (z.2.2.2.2.1 == y.2.2.2.2.1 && (rx_zpc z == rx_zpc y &&
    ((rx_zlv y).all (fun q => bx_scV y.1.length q.2 && (match rx_lk (rx_zlv z) q.1 with
      | some v => bx_eqV z.1 v (bx_sV σ q.2)
      | none => false)) && ((rx_zst y).all (bx_scV y.1.length) && bx_subS z.1 σ (rx_zst z) (rx_zst y))))))))))
noncomputable def bx_val (σ : List rx_E) (r : Nat → Int) (n : Nat) : Int := match σ[n]? with
  | some e => rx_ev r e
  | none => 0
section BXS
variable {r : Nat → Int} {ad xa : Nat → Nat} {I : rx_I} {σ : List rx_E}
theorem bx_sE_ok {e : rx_E} (h : e.1 < σ.length) : rx_ev r (bx_sE σ e) = rx_ev (bx_val σ r) e := by
  unfold bx_sE
  have hs : σ[e.1]? = some σ[e.1] := List.getElem?_eq_getElem h
  have e1 : bx_val σ r e.1 = rx_ev r σ[e.1] := by
    unfold bx_val
    rw [hs]
  rw [hs]
  show r σ[e.1].1 + (σ[e.1].2 + e.2) = bx_val σ r e.1 + e.2
  rw [e1]
  unfold rx_ev
  omega
theorem bx_eqE_ok {a b : rx_E} (hs : rx_sat I r) (h : bx_eqE I a b = true) : rx_ev r a = rx_ev r b := by
  unfold bx_eqE at h
  rw [Bool.and_eq_true, beq_iff_eq, beq_iff_eq] at h
  rw [← (rx_nm_ok (e := a) hs).1, ← (rx_nm_ok (e := b) hs).1]
  unfold rx_ev
  rw [h.1, h.2]
theorem bx_scV_ok {N M : Nat} {v : rx_V} (h : bx_scV N v = true) : rx_sc N M v := by
  match v, h with
  | .inl none, _ => exact trivial
  | .inl (some k), h => exact absurd (show false = true from h) Bool.false_ne_true
  | .inr (k, e), h =>
    have h9 : e.1 < N := of_decide_eq_true (show decide (e.1 < N) = true from h)
    exact h9
theorem bx_eqV_ok {v w : rx_V} (hs : rx_sat I r) (hw : bx_scV σ.length w = true) (h : bx_eqV I v (bx_sV σ w) = true) : rx_iv r ad xa v = rx_iv (bx_val σ r) ad xa w := by
  match v, w, hw, h with
  | .inl none, .inl none, _, _ => exact rfl
  | .inl none, .inl (some _), _, h => exact absurd (show false = true from h) Bool.false_ne_true
  | .inl (some _), .inl _, _, h => exact absurd (show false = true from h) Bool.false_ne_true
  | .inl none, .inr (0, _), _, h => exact absurd (show false = true from h) Bool.false_ne_true
  | .inl (some _), .inr (0, _), _, h => exact absurd (show false = true from h) Bool.false_ne_true
  | .inl none, .inr (1, _), _, h => exact absurd (show false = true from h) Bool.false_ne_true
  | .inl (some _), .inr (1, _), _, h => exact absurd (show false = true from h) Bool.false_ne_true
  | .inl none, .inr (2, _), _, h => exact absurd (show false = true from h) Bool.false_ne_true
  | .inl (some _), .inr (2, _), _, h => exact absurd (show false = true from h) Bool.false_ne_true
  | .inl none, .inr (_ + 3, _), _, h => exact absurd (show false = true from h) Bool.false_ne_true
  | .inl (some _), .inr (_ + 3, _), _, h => exact absurd (show false = true from h) Bool.false_ne_true
  | .inr (0, a), .inr (0, b), hw, h =>
    have h1 := bx_eqE_ok hs (show bx_eqE I a (bx_sE σ b) = true from h)
    have h2 := bx_sE_ok (r := r) (of_decide_eq_true (show decide (b.1 < σ.length) = true from hw))
    show Value.int (Int32.ofInt (rx_ev r a)) = Value.int (Int32.ofInt (rx_ev (bx_val σ r) b))
    rw [h1, h2]
  | .inr (1, a), .inr (1, b), hw, h =>
    have h1 := bx_eqE_ok hs (show bx_eqE I a (bx_sE σ b) = true from h)
    have h2 := bx_sE_ok (r := r) (of_decide_eq_true (show decide (b.1 < σ.length) = true from hw))
    show Value.long (Int64.ofInt (rx_ev r a)) = Value.long (Int64.ofInt (rx_ev (bx_val σ r) b))
    rw [h1, h2]
  | .inr (2, a), .inr (2, b), hw, h =>
    have h1 : a.2 = b.2 := beq_iff_eq.mp (show (a.2 == b.2) = true from h)
    show Value.ref (xa a.2.toNat) = Value.ref (xa b.2.toNat)
    rw [h1]
  | .inr (3, a), .inr (3, b), hw, h =>
    have h1 := bx_eqE_ok hs (show bx_eqE I a (bx_sE σ b) = true from h)
    have h2 := bx_sE_ok (r := r) (of_decide_eq_true (show decide (b.1 < σ.length) = true from hw))
    show Value.ref (ad (rx_ev r a).toNat) = Value.ref (ad (rx_ev (bx_val σ r) b).toNat)
    rw [h1, h2]
  | .inr (0, _), .inl none, _, h => exact absurd (show false = true from h) Bool.false_ne_true
  | .inr (0, _), .inl (some _), _, h => exact absurd (show false = true from h) Bool.false_ne_true
  | .inr (1, _), .inl none, _, h => exact absurd (show false = true from h) Bool.false_ne_true
  | .inr (1, _), .inl (some _), _, h => exact absurd (show false = true from h) Bool.false_ne_true
  | .inr (2, _), .inl none, _, h => exact absurd (show false = true from h) Bool.false_ne_true
  | .inr (2, _), .inl (some _), _, h => exact absurd (show false = true from h) Bool.false_ne_true
  | .inr (3, _), .inl none, _, h => exact absurd (show false = true from h) Bool.false_ne_true
  | .inr (3, _), .inl (some _), _, h => exact absurd (show false = true from h) Bool.false_ne_true
  | .inr (_ + 4, _), .inl none, _, h => exact absurd (show false = true from h) Bool.false_ne_true
  | .inr (_ + 4, _), .inl (some _), _, h => exact absurd (show false = true from h) Bool.false_ne_true
  | .inr (0, _), .inr (1, _), _, h => exact absurd (show false = true from h) Bool.false_ne_true
  | .inr (0, _), .inr (2, _), _, h => exact absurd (show false = true from h) Bool.false_ne_true
  | .inr (0, _), .inr (_ + 3, _), _, h => exact absurd (show false = true from h) Bool.false_ne_true
  | .inr (1, _), .inr (0, _), _, h => exact absurd (show false = true from h) Bool.false_ne_true
  | .inr (1, _), .inr (2, _), _, h => exact absurd (show false = true from h) Bool.false_ne_true
  | .inr (1, _), .inr (_ + 3, _), _, h => exact absurd (show false = true from h) Bool.false_ne_true
  | .inr (2, _), .inr (0, _), _, h => exact absurd (show false = true from h) Bool.false_ne_true
  | .inr (2, _), .inr (1, _), _, h => exact absurd (show false = true from h) Bool.false_ne_true
  | .inr (2, _), .inr (_ + 3, _), _, h => exact absurd (show false = true from h) Bool.false_ne_true
  | .inr (3, _), .inr (0, _), _, h => exact absurd (show false = true from h) Bool.false_ne_true
  | .inr (3, _), .inr (1, _), _, h => exact absurd (show false = true from h) Bool.false_ne_true
  | .inr (3, _), .inr (2, _), _, h => exact absurd (show false = true from h) Bool.false_ne_true
  | .inr (3, _), .inr (_ + 4, _), _, h => exact absurd (show false = true from h) Bool.false_ne_true
  | .inr (_ + 4, _), .inr (0, _), _, h => exact absurd (show false = true from h) Bool.false_ne_true
  | .inr (_ + 4, _), .inr (1, _), _, h => exact absurd (show false = true from h) Bool.false_ne_true
  | .inr (_ + 4, _), .inr (2, _), _, h => exact absurd (show false = true from h) Bool.false_ne_true
  | .inr (_ + 4, _), .inr (_ + 3, _), _, h => exact absurd (show false = true from h) Bool.false_ne_true
theorem bx_ent_ok {F : rx_F} {c : Nat} {a b : rx_E} (hs : rx_sat I r) (hF : rx_facts F r) (hfs : rx_fsc I.length F) (h : bx_ent I F c a b = true) : rx_fact r (c, a, b) := by
  unfold bx_ent at h
  split at h
  · rename_i al ah bl bh e1 e2
    obtain ⟨p1, p2, p3⟩ := rx_bd_ok hs e1
    obtain ⟨q1, q2, q3⟩ := rx_bd_ok hs e2
    split at h
    · refine Classical.byContradiction fun hn => ?_
      have hf : rx_fact r (1, b, a) := by
        have hn : ¬ rx_ev r a < rx_ev r b := hn
        exact (show rx_ev r b ≤ rx_ev r a by omega)
      obtain ⟨I2, F2, g, -⟩ := rx_asm_ok (N := I.length) (Nat.le_of_ble_eq_true rfl) hs hF hfs q3 p3 ⟨q1, q2⟩ ⟨p1, p2⟩ hf
      rw [g] at h
      exact Bool.false_ne_true h
    · refine Classical.byContradiction fun hn => ?_
      have hf : rx_fact r (0, b, a) := by
        have hn : ¬ rx_ev r a ≤ rx_ev r b := hn
        exact (show rx_ev r b < rx_ev r a by omega)
      obtain ⟨I2, F2, g, -⟩ := rx_asm_ok (N := I.length) (Nat.le_of_ble_eq_true rfl) hs hF hfs q3 p3 ⟨q1, q2⟩ ⟨p1, p2⟩ hf
      rw [g] at h
      exact Bool.false_ne_true h
    · exact absurd h Bool.false_ne_true
  · exact absurd h Bool.false_ne_true
theorem bx_subI_ok {τ : List rx_E} (hs : rx_sat I r) : ∀ {bs : List (Int × Int)} {es : List rx_E}, bx_subI I τ bs es = true → bs.length = es.length ∧ ∀ (n : Nat) (lo hi : Int), bs[n]? = some (lo, hi) → ∃ e, es[n]? = some e ∧ lo ≤ rx_ev r e ∧ rx_ev r e ≤ hi
  | [], [], _ => ⟨rfl, fun n lo hi h => by cases h⟩
  | [], _ :: _, h => absurd (show false = true from h) Bool.false_ne_true
  | _ :: _, [], h => absurd (show false = true from h) Bool.false_ne_true
  | b :: bs, e :: es, h => by
    rw [bx_subI, Bool.and_eq_true] at h
    obtain ⟨h1, h2⟩ := h
    obtain ⟨g1, g2⟩ := bx_subI_ok hs h2
    refine ⟨by rw [List.length_cons, List.length_cons, g1], fun n lo hi hn => ?_⟩
    cases n with
    | zero =>
      cases hn
      split at h1
      · rename_i lo2 hi2 hb
        rw [Bool.and_eq_true, decide_eq_true_eq, decide_eq_true_eq] at h1
        obtain ⟨p1, p2, -⟩ := rx_bd_ok hs hb
        exact ⟨e, rfl, by dsimp only at h1; omega, by dsimp only at h1; omega⟩
      · exact absurd h1 Bool.false_ne_true
    | succ n => exact g2 n lo hi hn
theorem bx_subS_ok (hs : rx_sat I r) : ∀ {vs ws : List rx_V}, ws.all (bx_scV σ.length) = true → bx_subS I σ vs ws = true → vs.map (rx_iv r ad xa) = ws.map (rx_iv (bx_val σ r) ad xa)
  | [], [], _, _ => rfl
  | [], _ :: _, _, h => absurd (show false = true from h) Bool.false_ne_true
  | _ :: _, [], _, h => absurd (show false = true from h) Bool.false_ne_true
  | v :: vs, w :: ws, hw, h => by
    rw [List.all_cons, Bool.and_eq_true] at hw
    rw [bx_subS, Bool.and_eq_true] at h
    rw [List.map_cons, List.map_cons, bx_eqV_ok hs hw.1 h.1, bx_subS_ok hs hw.2 h.2]
end BXS
end
section
section BXT
variable {s : State} {D : bx_D} {cl : List vw_C} {A : Nat → Prop} {xa : Nat → Nat} {nL : Nat} {H0 H : Heap} {locs : List Loc} {ls : Array Slot} {r : Nat → Int} {ad : Nat → Nat} {σ : List rx_E} {z y : rx_Z}
theorem bx_sub_ok {dmf : Nat → Int → Bool} (hlg : bx_lg D.2.2.2 = false) (hdm : dmf = D.2.1.2.2.2) (hR : rx_R D cl A s xa nL H0 z r ad H locs ls) (h : bx_sub dmf σ z y = true) :
    rx_R D cl A s xa nL H0 y (bx_val σ r) ad H locs ls ∧ rx_zpc z = rx_zpc y ∧ z.2.2.2.1 = y.2.2.2.1 ∧ z.2.2.2.2.1 = y.2.2.2.2.1 ∧ (rx_zst z).map (rx_iv r ad xa) = (rx_zst y).map (rx_iv (bx_val σ r) ad xa) ∧ σ.length = y.1.length := by
  subst hdm
  unfold bx_sub at h
  simp only [Bool.and_eq_true, decide_eq_true_eq, beq_iff_eq, List.all_eq_true] at h
  obtain ⟨h0, h8, hI, hF, hH, hc, hs, hpc, hlv, hst, hsS⟩ := h
  have hsat := hR.1
  obtain ⟨i1, i2⟩ := bx_subI_ok hsat hI
  have hz : bx_val σ r 0 = 0 := by
    split at h0
    · show rx_ev r (0, 0) = 0
      exact rx_ev0 hsat 0
    · exact absurd h0 Bool.false_ne_true
  have hsat2 : rx_sat y.1 (bx_val σ r) := ⟨hz, h8, fun n lo hi hn => by
    obtain ⟨e, g1, g2, g3⟩ := i2 n lo hi hn
    unfold bx_val
    rw [g1]
    exact ⟨g2, g3⟩⟩
  have hF0 : ∀ f ∈ y.2.1, rx_fact (bx_val σ r) f ∧ f.2.1.1 < y.1.length ∧ f.2.2.1 < y.1.length ∧ (1000000 ≤ f.1 → (bx_de (f.1 / 1000000)).1 < y.1.length) := fun f hf => by
    have h1 := hF f hf
    unfold bx_subF at h1
    rw [Bool.and_eq_true, Bool.and_eq_true, decide_eq_true_eq, decide_eq_true_eq] at h1
    obtain ⟨k1, k2, k3⟩ := h1
    have ea : rx_ev r (bx_sE σ f.2.1) = rx_ev (bx_val σ r) f.2.1 := bx_sE_ok (by rw [← i1]; exact k1)
    have eb : rx_ev r (bx_sE σ f.2.2) = rx_ev (bx_val σ r) f.2.2 := bx_sE_ok (by rw [← i1]; exact k2)
    obtain ⟨fk, fa, fb⟩ := f
    dsimp only at k1 k2 k3 ea eb
    split at k3
    · rename_i hk
      refine ⟨?_, k1, k2, fun q => absurd q (by show ¬ 1000000 ≤ fk; omega)⟩
      have h2 := bx_ent_ok hsat hR.2.1 hR.2.2.1 k3
      rcases (show fk = 0 ∨ fk = 1 by omega) with rfl | rfl
      · have h2 : rx_ev r (bx_sE σ fa) < rx_ev r (bx_sE σ fb) := h2
        rw [ea, eb] at h2
        exact h2
      · have h2 : rx_ev r (bx_sE σ fa) ≤ rx_ev r (bx_sE σ fb) := h2
        rw [ea, eb] at h2
        exact h2
    · rw [Bool.and_eq_true, Bool.and_eq_true, decide_eq_true_eq, decide_eq_true_eq] at k3
      obtain ⟨k3, k4, k5⟩ := k3
      refine ⟨?_, k1, k2, fun q => absurd q (by show ¬ 1000000 ≤ fk; omega)⟩
      obtain ⟨g, hg, k6⟩ := List.any_eq_true.mp k5
      rw [Bool.and_eq_true, Bool.and_eq_true, beq_iff_eq] at k6
      obtain ⟨k6, k7, k8⟩ := k6
      have h2 := hR.2.1 g hg
      obtain ⟨gk, ga, gb⟩ := g
      dsimp only at k6 k7 k8
      subst k6
      obtain ⟨j, rfl⟩ : ∃ j, gk = j + 4 := ⟨gk - 4, by omega⟩
      have h2 : if j < 999996 then rx_ev r ga = (j : Int) * rx_ev r gb else rx_ev r ga = rx_ev r gb + rx_ev r (bx_de ((j + 4) / 1000000)) := h2
      rw [if_pos (by omega), bx_eqE_ok hsat k7, bx_eqE_ok hsat k8, ea, eb] at h2
      exact rx_fact_mul (by omega) h2
  obtain ⟨S, hW, hS, hsm, hkn⟩ := id hR.2.2.2.1
  have hkn2 : bx_kns D ad xa S y.1.length y.2.2.1 (bx_val σ r) := fun q hq => by
    obtain ⟨g1, g2, g3⟩ := hH q hq
    refine ⟨g1, bx_scV_ok g2, ?_⟩
    have hev : rx_ev r (bx_sE σ q.1.1) = rx_ev (bx_val σ r) q.1.1 := bx_sE_ok (by rw [← i1]; exact g1)
    unfold bx_subH at g3
    unfold bx_kn
    split
    · rename_i hcc
      rw [if_pos hcc] at g3
      rw [← hev]
      simp only [Bool.or_eq_true, Bool.and_eq_true, beq_iff_eq] at g3
      rcases g3 with ⟨k1, k2⟩ | ⟨k1, k2⟩
      · have e1 : rx_ev r (bx_sE σ q.1.1) = (bx_sE σ q.1.1).2 := by
          unfold rx_ev
          rw [k1, hsat.1, Int.zero_add]
        rw [e1]
        exact k2
      · have e1 : rx_ev r (bx_sE σ q.1.1) = r (bx_sE σ q.1.1).1 := by
          unfold rx_ev
          rw [k1, Int.add_zero]
        rw [e1]
        exact (bx_fd_ok hkn k2).1
    · rename_i hcc
      rw [if_neg hcc] at g3
      split at g3
      · rename_i v hck
        obtain ⟨p1, p2, p3⟩ := hkn _ (bx_ck_ok hck)
        unfold bx_kn at p3
        rw [if_neg hcc] at p3
        have p3 : 0 ≤ rx_ev r (bx_sE σ q.1.1) ∧ (rx_ev r (bx_sE σ q.1.1)).toNat < D.2.1.2.1 ∧ ∃ tc : Nat, bx_tcs (D.2.1.1 (rx_ev r (bx_sE σ q.1.1)).toNat) q.1.2 = some tc ∧ rx_iv r ad xa v = bx_fv ad tc (S (rx_ev r (bx_sE σ q.1.1)).toNat (q.1.2 : Int)) := p3
        rw [hev] at p3
        obtain ⟨a1, a2, tc, a4, a5⟩ := p3
        refine ⟨a1, a2, tc, a4, ?_⟩
        rw [← a5]
        exact (bx_eqV_ok hsat (by rw [← i1]; exact g2) g3).symm
      · exact absurd g3 Bool.false_ne_true
  refine ⟨⟨hsat2, fun f hf => ?_, fun f hf => ?_, ⟨S, hW, hS, ⟨hsm.1, fun h => by rw [hlg] at h; exact absurd h Bool.false_ne_true⟩, hkn2⟩, ?_, fun q hq => bx_scV_ok (hlv q hq).1, fun v hv => bx_scV_ok (hst v hv)⟩, hpc, hc, hs, ?_, i1.symm⟩
  · exact (hF0 f hf).1
  · exact (hF0 f hf).2
  · have hl : lv_has ls nL (rx_lvs r ad xa (rx_zlv z)) := rx_lvh hR
    refine ⟨hl.1, hl.2.1, fun q hq => ?_⟩
    obtain ⟨q0, hq0, rfl⟩ := List.mem_map.mp hq
    obtain ⟨g1, g2⟩ := hlv q0 hq0
    split at g2
    · rename_i v hv
      have := rx_lv_get hl hv
      rw [bx_eqV_ok hsat (by rw [← i1]; exact g1) g2] at this
      exact this
    · exact absurd g2 Bool.false_ne_true
  · exact bx_subS_ok hsat (List.all_eq_true.mpr fun v hv => by rw [← i1]; exact hst v hv) hsS
end BXT
noncomputable abbrev bx_ms : Type := List (Bool × rx_E × Int)
noncomputable def bx_mv (r : Nat → Int) (q : Bool × rx_E × Int) : Nat := match q.1 with
  | true => (rx_ev r q.2.1 - q.2.2).toNat
  | false => (q.2.2 - rx_ev r q.2.1).toNat
noncomputable def bx_enc (r : Nat → Int) : bx_ms → Nat
  | [] => 0
  | q :: l => bx_mv r q * 1208925819614629174706176 ^ l.length + bx_enc r l
noncomputable def bx_mb (I : rx_I) (q : Bool × rx_E × Int) : Bool := match rx_bd I q.2.1 with
  | some (lo, hi) => (match q.1 with
    | true => decide (hi - q.2.2 < 1208925819614629174706176)
    | false => decide (q.2.2 - lo < 1208925819614629174706176))
  | none => false
noncomputable def bx_dn (I : rx_I) (F : rx_F) (s : Bool) (e_p e : rx_E) (k : Int) : Bool := match s with
  | true => bx_ent I F 0 e_p e && bx_ent I F 1 (0, k) e_p
  | false => bx_ent I F 0 e e_p && bx_ent I F 1 e_p (0, k)
noncomputable def bx_dle (I : rx_I) (F : rx_F) (s : Bool) (e_p e : rx_E) : Bool := match s with
  | true => bx_ent I F 1 e_p e
  | false => bx_ent I F 1 e e_p
noncomputable def bx_lex (I : rx_I) (F : rx_F) : bx_ms → bx_ms → Bool
  | [], _ => false
  | q_p :: ns, os => match os with
    | [] => false
    | q :: os => q_p.1 == q.1 && (decide (q_p.2.2 = q.2.2) && ((ns.length == os.length && (ns.all (bx_mb I) && bx_dn I F q.1 q_p.2.1 q.2.1 q.2.2)) || (bx_dle I F q.1 q_p.2.1 q.2.1 && bx_lex I F ns os)))
theorem bx_mb_ok {I : rx_I} {r : Nat → Int} {q : Bool × rx_E × Int} (hs : rx_sat I r) (h : bx_mb I q = true) : bx_mv r q < 1208925819614629174706176 := by
  obtain ⟨b, e, k⟩ := q
  unfold bx_mb at h
  unfold bx_mv
  split at h
  · rename_i lo hi hb
    obtain ⟨p1, p2, -⟩ := rx_bd_ok hs hb
    cases b
    · have h : k - lo < 1208925819614629174706176 := of_decide_eq_true h
      show (k - rx_ev r e).toNat < _
      dsimp only at p1 p2
      omega
    · have h : hi - k < 1208925819614629174706176 := of_decide_eq_true h
      show (rx_ev r e - k).toNat < _
      dsimp only at p1 p2
      omega
  · exact absurd h Bool.false_ne_true
theorem bx_enc_lt {I : rx_I} {r : Nat → Int} (hs : rx_sat I r) : ∀ {l : bx_ms}, l.all (bx_mb I) = true → bx_enc r l < 1208925819614629174706176 ^ l.length
  | [], _ => Nat.zero_lt_one
  | q :: l, h => by
    rw [List.all_cons, Bool.and_eq_true] at h
    have h1 := bx_mb_ok hs h.1
    have h2 := bx_enc_lt hs h.2
    rw [bx_enc, List.length_cons, Nat.pow_succ, Nat.mul_comm (1208925819614629174706176 ^ l.length)]
    generalize 1208925819614629174706176 ^ l.length = X at h2 ⊢
    have h3 : bx_mv r q * X + X ≤ 1208925819614629174706176 * X := by
      rw [← Nat.succ_mul]
      exact Nat.mul_le_mul_right X h1
    omega
theorem bx_lex_ok {I : rx_I} {F : rx_F} {r : Nat → Int} (hs : rx_sat I r) (hF : rx_facts F r) (hfs : rx_fsc I.length F) : ∀ {ns os : bx_ms}, bx_lex I F ns os = true → ns.length = os.length ∧ bx_enc r ns < bx_enc r os
  | [], _, h => absurd (show false = true from h) Bool.false_ne_true
  | _ :: _, [], h => absurd (show false = true from h) Bool.false_ne_true
  | (s_p, e_p, k_p) :: ns, (s, e, k) :: os, h => by
    have h : (s_p == s && (decide (k_p = k) && ((ns.length == os.length && (ns.all (bx_mb I) && bx_dn I F s e_p e k)) || (bx_dle I F s e_p e && bx_lex I F ns os)))) = true := h
    rw [Bool.and_eq_true, Bool.and_eq_true, beq_iff_eq, decide_eq_true_eq, Bool.or_eq_true] at h
    obtain ⟨rfl, rfl, h⟩ := h
    rw [bx_enc, bx_enc, List.length_cons, List.length_cons]
    rcases h with h | h
    · rw [Bool.and_eq_true, Bool.and_eq_true, beq_iff_eq] at h
      obtain ⟨g1, g2, g3⟩ := h
      have h2 := bx_enc_lt hs g2
      rw [g1] at h2 ⊢
      have h1 : bx_mv r (s_p, e_p, k_p) < bx_mv r (s_p, e, k_p) := by
        cases s_p
        · have g3 : (bx_ent I F 0 e e_p && bx_ent I F 1 e_p (0, k_p)) = true := g3
          rw [Bool.and_eq_true] at g3
          have p1 : rx_ev r e < rx_ev r e_p := bx_ent_ok hs hF hfs g3.1
          have p2 : rx_ev r e_p ≤ rx_ev r (0, k_p) := bx_ent_ok hs hF hfs g3.2
          rw [rx_ev0 hs] at p2
          show (k_p - rx_ev r e_p).toNat < (k_p - rx_ev r e).toNat
          omega
        · have g3 : (bx_ent I F 0 e_p e && bx_ent I F 1 (0, k_p) e_p) = true := g3
          rw [Bool.and_eq_true] at g3
          have p1 : rx_ev r e_p < rx_ev r e := bx_ent_ok hs hF hfs g3.1
          have p2 : rx_ev r (0, k_p) ≤ rx_ev r e_p := bx_ent_ok hs hF hfs g3.2
          rw [rx_ev0 hs] at p2
          show (rx_ev r e_p - k_p).toNat < (rx_ev r e - k_p).toNat
          omega
      refine ⟨rfl, ?_⟩
      generalize 1208925819614629174706176 ^ os.length = X at h2 ⊢
      have h3 : bx_mv r (s_p, e_p, k_p) * X + X ≤ bx_mv r (s_p, e, k_p) * X := by
        rw [← Nat.succ_mul]
        exact Nat.mul_le_mul_right X h1
      omega
    · rw [Bool.and_eq_true] at h
      obtain ⟨g1, g2⟩ := h
      obtain ⟨i1, i2⟩ := bx_lex_ok hs hF hfs g2
      have h1 : bx_mv r (s_p, e_p, k_p) ≤ bx_mv r (s_p, e, k_p) := by
        cases s_p
        · have p1 : rx_ev r e ≤ rx_ev r e_p := bx_ent_ok hs hF hfs (show bx_ent I F 1 e e_p = true from g1)
          show (k_p - rx_ev r e_p).toNat ≤ (k_p - rx_ev r e).toNat
          omega
        · have p1 : rx_ev r e_p ≤ rx_ev r e := bx_ent_ok hs hF hfs (show bx_ent I F 1 e_p e = true from g1)
          show (rx_ev r e_p - k_p).toNat ≤ (rx_ev r e - k_p).toNat
          omega
      rw [i1]
      refine ⟨rfl, ?_⟩
      have h3 := Nat.mul_le_mul_right (1208925819614629174706176 ^ os.length) h1
      omega
noncomputable abbrev bx_tab : Type := List (rx_Z × bx_ms)
noncomputable def bx_cut (dmf : Nat → Int → Bool) (mk : rx_Z → rx_Z → List rx_E) (tab : bx_tab) (m0 : Option bx_ms) (z_p : rx_Z) : Bool :=
  tab.any (fun q => rx_zpc z_p == rx_zpc q.1 && (bx_sub dmf (mk q.1 z_p) z_p q.1 && (match m0 with
    | none => true
    | some m => bx_lex z_p.1 z_p.2.1 (q.2.map (fun c => (c.1, bx_sE (mk q.1 z_p) c.2.1, c.2.2))) m)))
theorem bx_enc_map {r : Nat → Int} {σ : List rx_E} : ∀ {l : bx_ms}, l.all (fun c => decide (c.2.1.1 < σ.length)) = true → bx_enc r (l.map (fun c => (c.1, bx_sE σ c.2.1, c.2.2))) = bx_enc (bx_val σ r) l
  | [], _ => rfl
  | q :: l, h => by
    rw [List.all_cons, Bool.and_eq_true, decide_eq_true_eq] at h
    rw [List.map_cons, bx_enc, bx_enc, bx_enc_map h.2, List.length_map]
    congr 2
    obtain ⟨b, e, k⟩ := q
    have h1 := bx_sE_ok (r := r) h.1
    dsimp only at h1
    unfold bx_mv
    dsimp only
    rw [h1]
theorem bx_enc_same {r r_p : Nat → Int} {N : Nat} (hr : rx_same N r r_p) : ∀ {l : bx_ms}, l.all (fun c => decide (c.2.1.1 < N)) = true → bx_enc r_p l = bx_enc r l
  | [], _ => rfl
  | q :: l, h => by
    rw [List.all_cons, Bool.and_eq_true, decide_eq_true_eq] at h
    rw [bx_enc, bx_enc, bx_enc_same hr h.2]
    unfold bx_mv
    rw [rx_ev_ext h.1 hr]
section BXW
variable {B : bx_B} {G NW : List Jvm.Cond} {AO : List String} {cl : List vw_C} {T : rx_Tb} {nm : Nat → String} {xh : rx_Xh} {l : Launch} {D : bx_D} {A : Nat → Prop} {xa : Nat → Nat} {PX : State → Prop}
variable {p : Program} {e : Env} {R : Room} {s : State} {m : MethodId} {args : Array Value} {below : List Frame} {meth : Method} {c : Code} {Q : State → Prop} {H0 : Heap} {ad : Nat → Nat}
noncomputable def bx_Ret (p : Program) (l : Launch) (e : Env) (R : Room) (s : State) (m : MethodId) (args : Array Value) (below : List Frame) (meth : Method) (c : Code) (Q : State → Prop) (D : bx_D) (cl : List vw_C) (A : Nat → Prop) (xa : Nat → Nat) (H0 : Heap) (ad : Nat → Nat) (M : rx_Mt) (fE : rx_End → Bool) : Prop :=
  ∀ E : rx_End, fE E = true → ∀ (r_p : Nat → Int) (H_p : Heap) (locs_p : List Loc) (ls_p : Array Slot) (pc_p k_p n_p : Nat), rx_RE D cl A s xa E r_p ad H_p → va_S A H0 H_p locs_p → k_p ≤ M.2.2.2.2.2.2.1 → n_p ≤ M.2.2.2.2.2.2.2 → rx_rti M pc_p r_p ad xa E.2.2.2 →
    W p l e R s m args below meth c H_p locs_p k_p n_p Q (F0 m pc_p ls_p (E.2.2.2.toList.map (rx_iv r_p ad xa)))
theorem bx_loop {dmf : Nat → Int → Bool} {mk : rx_Z → rx_Z → List rx_E} {tab : bx_tab} {fE : rx_End → Bool} {f d : Nat} {M : rx_Mt} (hlg : bx_lg D.2.2.2 = false) (hdm : dmf = D.2.1.2.2.2) (hg : ∀ cut, rx_Goal f d cut B xh T G NW AO cl nm A xa PX l D ad) (hn : nm M.1 = M.2.2.2.2.1.cls)
    (hruns : ∀ q ∈ tab, q.2.all (fun c => decide (c.2.1.1 < q.1.1.length)) = true ∧ ∃ Es, rx_exec B xh T (bx_cut dmf mk tab (some q.2)) f d M q.1 = some Es ∧ Es.all fE = true)
    (hF : rx_Fr G NW AO PX p s m args meth c M) (hA : ∀ q, H0.size ≤ q → A q) (hH0 : H0 = s.heap) (hmc : M.2.2.2.2.2.2.1 ≤ R.cells) (hms : M.2.2.2.2.2.2.2 ≤ R.slots) (hd : d ≤ R.frames) (hdl : d * 40 ≤ R.locals) (hret : bx_Ret p l e R s m args below meth c Q D cl A xa H0 ad M fE) :
    ∀ (n : Nat) (q : rx_Z × bx_ms), q ∈ tab → ∀ (r : Nat → Int) (H : Heap) (locs : List Loc) (ls : Array Slot), bx_enc r q.2 = n → rx_R D cl A s xa M.2.2.1 H0 q.1 r ad H locs ls →
      W p l e R s m args below meth c H locs q.1.2.2.2.1 q.1.2.2.2.2.1 Q (F0 m (rx_zpc q.1) ls ((rx_zst q.1).map (rx_iv r ad xa))) := by
  intro n
  induction n using Nat.strongRecOn with
  | _ n ih =>
    intro q hq r H locs ls hen hR
    obtain ⟨hsc, Es, hex, hfE⟩ := hruns q hq
    refine hg _ M q.1 Es hex hn (N0 := q.1.1.length) (r0 := r) hF hA hH0 hmc hms hd hdl (Nat.le_refl _) rx_same.rf ?_ hR fun E hE r_p H_p locs_p ls_p pc_p k_p n_p _ _ hRE hS hk hn_p hrt => hret E (List.all_eq_true.mp hfE E hE) r_p H_p locs_p ls_p pc_p k_p n_p hRE hS hk hn_p hrt
    intro z_p hc r_p H_p locs_p ls_p hN hr hR_p
    unfold bx_cut at hc
    obtain ⟨q_p, hq_p, hc⟩ := List.any_eq_true.mp hc
    rw [Bool.and_eq_true, Bool.and_eq_true] at hc
    obtain ⟨-, hc1, hc2⟩ := hc
    obtain ⟨g1, g2, g3, g4, g5, g6⟩ := bx_sub_ok hlg hdm hR_p hc1
    obtain ⟨-, hlt⟩ := bx_lex_ok hR_p.1 hR_p.2.1 hR_p.2.2.1 hc2
    rw [bx_enc_map (by rw [g6]; exact (hruns q_p hq_p).1), bx_enc_same hr hsc, hen] at hlt
    have := ih _ hlt q_p hq_p _ H_p locs_p ls_p rfl g1
    rw [g2, g3, g4, g5]
    exact this
theorem bx_enter {dmf : Nat → Int → Bool} {mk : rx_Z → rx_Z → List rx_E} {tab : bx_tab} {fE : rx_End → Bool} {f d : Nat} {M : rx_Mt} {z : rx_Z} {Es : List rx_End} {r : Nat → Int} {H : Heap} {locs : List Loc} {ls : Array Slot} (hlg : bx_lg D.2.2.2 = false) (hdm : dmf = D.2.1.2.2.2) (hg : ∀ cut, rx_Goal f d cut B xh T G NW AO cl nm A xa PX l D ad) (hn : nm M.1 = M.2.2.2.2.1.cls)
    (hruns : ∀ q ∈ tab, q.2.all (fun c => decide (c.2.1.1 < q.1.1.length)) = true ∧ ∃ Es, rx_exec B xh T (bx_cut dmf mk tab (some q.2)) f d M q.1 = some Es ∧ Es.all fE = true)
    (hex : rx_exec B xh T (bx_cut dmf mk tab none) f d M z = some Es) (hfE : Es.all fE = true)
    (hF : rx_Fr G NW AO PX p s m args meth c M) (hA : ∀ q, H0.size ≤ q → A q) (hH0 : H0 = s.heap) (hmc : M.2.2.2.2.2.2.1 ≤ R.cells) (hms : M.2.2.2.2.2.2.2 ≤ R.slots) (hd : d ≤ R.frames) (hdl : d * 40 ≤ R.locals) (hret : bx_Ret p l e R s m args below meth c Q D cl A xa H0 ad M fE) (hR : rx_R D cl A s xa M.2.2.1 H0 z r ad H locs ls) :
    W p l e R s m args below meth c H locs z.2.2.2.1 z.2.2.2.2.1 Q (F0 m (rx_zpc z) ls ((rx_zst z).map (rx_iv r ad xa))) := by
  refine hg _ M z Es hex hn (N0 := 0) (r0 := r) hF hA hH0 hmc hms hd hdl (Nat.zero_le _) rx_same.rf ?_ hR fun E hE r_p H_p locs_p ls_p pc_p k_p n_p _ _ hRE hS hk hn_p hrt => hret E (List.all_eq_true.mp hfE E hE) r_p H_p locs_p ls_p pc_p k_p n_p hRE hS hk hn_p hrt
  intro z_p hc r_p H_p locs_p ls_p hN hr hR_p
  unfold bx_cut at hc
  obtain ⟨q_p, hq_p, hc⟩ := List.any_eq_true.mp hc
  rw [Bool.and_eq_true, Bool.and_eq_true] at hc
  obtain ⟨-, hc1, -⟩ := hc
  obtain ⟨g1, g2, g3, g4, g5, g6⟩ := bx_sub_ok hlg hdm hR_p hc1
  have := bx_loop hlg hdm hg hn hruns hF hA hH0 hmc hms hd hdl hret _ q_p hq_p _ H_p locs_p ls_p rfl g1
  rw [g2, g3, g4, g5]
  exact this
end BXW
end
section
noncomputable abbrev bx_Pr : Type := List (Nat × Nat × Nat × bx_T)
noncomputable abbrev bx_Ct : Type := List (Nat × bx_T) × Option (Nat × bx_T) × List (Nat × Nat) × Nat × bx_Pr
noncomputable def bx_argOK (L : bx_L) (ad : Nat → Nat) : List (Nat × bx_T) → List Value → Prop
  | [], vs => vs = []
  | a :: as, vs => ∃ (w : Int) (vt : List Value), vs = bx_fv ad a.1 w :: vt ∧ bx_okR L 0 a.2 w ∧ bx_argOK L ad as vt
noncomputable def bx_preOK (L : bx_L) (ad : Nat → Nat) (S : Nat → Int → Int) (ps : bx_Pr) : Prop := ∀ q ∈ ps, ∃ w : Int, bx_fv ad q.2.2.1 (S q.1 (q.2.1 : Int)) = bx_fv ad q.2.2.1 w ∧ bx_okR L 0 q.2.2.2 w
noncomputable def bx_mdl (ms : List (Nat × Nat)) (ci k : Nat) : Bool := ms.any (fun q => q.1 == ci && q.2 == k)
noncomputable def bx_retOK (L : bx_L) (ad : Nat → Nat) (ret : Option (Nat × bx_T)) (rv : Option Value) : Prop := match ret with
  | none => rv = none
  | some a => ∃ w : Int, rv = some (bx_fv ad a.1 w) ∧ bx_okR L 0 a.2 w
noncomputable def bx_PreC (NW : List Jvm.Cond) (AO : List String) (PX : State → Prop) (Dg : va_G) (L : bx_L) (cl : List vw_C) (A : Nat → Prop) (ad : Nat → Nat) (S0 : Nat → Int → Int) (U : State) : Prop :=
  (∀ w ∈ NW, va_Nw w U) ∧ (∀ C ∈ AO, va_AO C U) ∧ PX U ∧ bx_W0 (Dg, L, S0, fun _ _ => false) cl A U ad S0 U.heap ∧ ∀ q, U.heap.size ≤ q → A q
noncomputable def bx_PostC (Dg : va_G) (L : bx_L) (X : (Nat → Int → Int) → Prop) (cl : List vw_C) (A : Nat → Prop) (ad : Nat → Nat) (S0 : Nat → Int → Int) (ret : Option (Nat × bx_T)) (ms : List (Nat × Nat)) : Array Value → State → Outcome → State → Prop := fun _ st oc t =>
  (∃ (S_p : Nat → Int → Int) (rv : Option Value), oc = .returned rv ∧ bx_retOK L ad ret rv ∧ bx_W0 (Dg, L, S0, fun _ _ => false) cl A t ad S_p t.heap ∧ bx_same L (bx_mdl ms) S0 S_p ∧ X S_p) ∧ va_F A st t
noncomputable def bx_Con (G NW : List Jvm.Cond) (AO : List String) (PX : State → Prop) (Dg : va_G) (L : bx_L) (X : (Nat → Int → Int) → Prop) (cl : List vw_C) (A : Nat → Prop) (ad : Nat → Nat) (l : Launch) (M : rx_Mt) (ct : bx_Ct) : Prop :=
  ∀ (S0 : Nat → Int → Int) (vs : List Value), X S0 → bx_argOK L ad ct.1 vs → bx_preOK L ad S0 ct.2.2.2.2 →
    Met l M.2.2.2.2.1 (Jvm.Cond.code M.2.2.2.2.1 M.2.1 M.2.2.1 M.2.2.2.1 :: G) { frames := ct.2.2.2.1, cells := M.2.2.2.2.2.2.1, slots := M.2.2.2.2.2.2.2, locals := ct.2.2.2.1 * 40 } (va_Pc vs (bx_PreC NW AO PX Dg L cl A ad S0)) (bx_PostC Dg L X cl A ad S0 ct.2.1 ct.2.2.1) M.2.2.2.2.2.2.1 M.2.2.2.2.2.2.2 A
noncomputable def bx_ent0 (np : Nat) : List (Nat × bx_T) → rx_I → List rx_C → Option (rx_I × List rx_C × List rx_V)
  | [], I, ht => some (I, ht, [])
  | a :: as, I, ht => match bx_nv a.1 0 np a.2 I ht with
    | none => none
    | some q => match bx_ent0 np as q.1 q.2.1 with
      | none => none
      | some q2 => some (q2.1, q2.2.1, q.2.2 :: q2.2.2)
noncomputable def bx_ent1 (B : bx_B) : bx_Pr → rx_I → List rx_C → Option (rx_I × List rx_C)
  | [], I, ht => some (I, ht)
  | q :: qs, I, ht => match B.1.1 none (q.1 : Int) with
    | some k => rx_if (decide (q.2.1 < 1000000) && bx_tcs k q.2.1 == some q.2.2.1) (match bx_nv q.2.2.1 0 B.2.1 q.2.2.2 I ht with
      | some a => bx_ent1 B qs a.1 ((((0, (q.1 : Int)), q.2.1), a.2.2) :: a.2.1)
      | none => none)
    | none => none
noncomputable def bx_I0 : rx_I := [(0, 0), (0, 0), (0, 0), (0, 0), (0, 0), (0, 0), (0, 0), (0, 0)]
noncomputable def bx_fE (dmf : Nat → Int → Bool) (ret : Option (Nat × bx_T)) (E : rx_End) : Bool := match ret, E.2.2.2 with
  | none, none => true
  | some a, some v => bx_fits dmf E.1 E.2.2.1 a.1 0 a.2 v
  | _, _ => false
noncomputable def bx_okO (fE : rx_End → Bool) (o : Option (List rx_End)) : Bool := match o with
  | some Es => Es.all fE
  | none => false
noncomputable def bx_chk (B : bx_B) (xh : rx_Xh) (T : rx_Tb) (mk : rx_Z → rx_Z → List rx_E) (f : Nat) (M : rx_Mt) (ct : bx_Ct) (tab : bx_tab) : Bool := match bx_ent0 B.2.1 ct.1 bx_I0 [] with
  | some (I0, ht0, as) => match bx_ent1 B ct.2.2.2.2 I0 ht0 with
    | some (I, ht) => decide (rx_cats as ≤ M.2.2.1) && (!(bx_lg B.2.2.2) && bx_okO (bx_fE B.2.2.1 ct.2.1) (rx_exec B xh T (bx_cut B.2.2.1 mk tab none) f ct.2.2.2.1 M (I, [], ht, 0, 0, 0, rx_largs 0 as, [])) &&
      tab.all (fun q => q.2.all (fun c => decide (c.2.1.1 < q.1.1.length)) && bx_okO (bx_fE B.2.2.1 ct.2.1) (rx_exec B xh T (bx_cut B.2.2.1 mk tab (some q.2)) f ct.2.2.2.1 M q.1)))
    | none => false
  | none => false
theorem bx_okO_ok {fE : rx_End → Bool} {o : Option (List rx_End)} (h : bx_okO fE o = true) : ∃ Es, o = some Es ∧ Es.all fE = true := by
  unfold bx_okO at h
  split at h
  · rename_i Es
    exact ⟨Es, rfl, h⟩
  · exact absurd h Bool.false_ne_true
theorem bx_W0_md {Dg : va_G} {L : bx_L} {S1 S2 : Nat → Int → Int} {m1 m2 : Nat → Nat → Bool} {cl : List vw_C} {A : Nat → Prop} {s : State} {ad : Nat → Nat} {S : Nat → Int → Int} {H : Heap} (h : bx_W0 (Dg, L, S1, m1) cl A s ad S H) : bx_W0 (Dg, L, S2, m2) cl A s ad S H := h
section BXC
variable {s : State} {D : bx_D} {cl : List vw_C} {A : Nat → Prop} {xa : Nat → Nat} {ad : Nat → Nat} {V : bx_V}
theorem bx_args_ok {np : Nat} {S : Nat → Int → Int} (hV : bx_VOK D.2.1 V) (hnp : np = D.2.1.2.1) : ∀ {args : List (Nat × bx_T)} {vs : List Value} {I I2 : rx_I} {ht ht2 : List rx_C} {as : List rx_V} {r : Nat → Int}, bx_argOK D.2.1 ad args vs → rx_sat I r → bx_kns D ad xa S I.length ht r → bx_ent0 np args I ht = some (I2, ht2, as) →
    ∃ r_p : Nat → Int, rx_same I.length r r_p ∧ rx_sat I2 r_p ∧ I.length ≤ I2.length ∧ bx_kns D ad xa S I2.length ht2 r_p ∧ as.map (rx_iv r_p ad xa) = vs ∧ ∀ v ∈ as, rx_sc I2.length 0 v
  | [], vs, I, I2, ht, ht2, as, r, ha, hs, hk, h => by
    have ha : vs = [] := ha
    rw [bx_ent0] at h
    cases h
    subst ha
    exact ⟨r, rx_same.rf, hs, Nat.le_refl _, hk, rfl, fun v hv => absurd hv List.not_mem_nil⟩
  | a :: args, vs, I, I2, ht, ht2, as, r, ha, hs, hk, h => by
    obtain ⟨w, vt, hvs, hok, hrest⟩ := ha
    subst hvs
    rw [bx_ent0] at h
    split at h
    · cases h
    · rename_i q hq
      split at h
      · cases h
      · rename_i q2 hq2
        cases h
        obtain ⟨Iq, hq_p, vq⟩ := q
        obtain ⟨I3, ht3, as3⟩ := q2
        obtain ⟨r1, a1, a2, a3, a4, a5, a6, -⟩ := bx_nv_ok (w := w) hV hnp hs (rx_pos hs) hk hq (by rw [hs.1]; exact hok)
        obtain ⟨r2, b1, b2, b3, b4, b5, b6⟩ := bx_args_ok hV hnp hrest a2 a5 hq2
        refine ⟨r2, a1.tr b1 a3, b2, Nat.le_trans a3 b3, b4, ?_, fun v hv => ?_⟩
        · rw [List.map_cons, b5, rx_iv_ext (M := 0) (ad_p := ad) a4 b1 rx_sameA.rf, a6]
        · rcases List.mem_cons.mp hv with h | h
          · subst h
            exact rx_sc.mono a4 b3 trivial
          · exact b6 v h
theorem bx_pre_ok {B : bx_B} {S : Nat → Int → Int} (hV : bx_VOK D.2.1 B.1) (hnp : B.2.1 = D.2.1.2.1) : ∀ {ps : bx_Pr} {I I2 : rx_I} {ht ht2 : List rx_C} {r : Nat → Int}, bx_preOK D.2.1 ad S ps → rx_sat I r → bx_kns D ad xa S I.length ht r → bx_ent1 B ps I ht = some (I2, ht2) →
    ∃ r_p : Nat → Int, rx_same I.length r r_p ∧ rx_sat I2 r_p ∧ I.length ≤ I2.length ∧ bx_kns D ad xa S I2.length ht2 r_p
  | [], I, I2, ht, ht2, r, _, hs, hk, h => by
    rw [bx_ent1] at h
    cases h
    exact ⟨r, rx_same.rf, hs, Nat.le_refl _, hk⟩
  | q :: ps, I, I2, ht, ht2, r, hp, hs, hk, h => by
    obtain ⟨w, hw1, hw2⟩ := hp q List.mem_cons_self
    rw [bx_ent1] at h
    split at h
    · rename_i kd hkd
      obtain ⟨hc, h2⟩ := rx_if_ok h
      clear h
      rw [Bool.and_eq_true, decide_eq_true_eq, beq_iff_eq] at hc
      obtain ⟨p1, p2, p3⟩ := hV.1 none _ _ hkd 0 rfl
      rw [Int.zero_add] at p1 p2 p3
      split at h2
      · rename_i a ha
        obtain ⟨Ia, hta, va⟩ := a
        obtain ⟨r1, a1, a2, a3, a4, a5, a6, -⟩ := bx_nv_ok (w := w) hV hnp hs (rx_pos hs) hk ha (by rw [hs.1]; exact hw2)
        have hk2 : bx_kns D ad xa S Ia.length ((((0, (q.1 : Int)), q.2.1), va) :: hta) r1 := fun y hy => by
          rcases List.mem_cons.mp hy with h | h
          · subst h
            refine ⟨rx_pos a2, a4, ?_⟩
            unfold bx_kn
            rw [if_neg (by dsimp only; omega)]
            dsimp only
            rw [rx_ev0 a2]
            rw [p3]
            refine ⟨p1, p2, q.2.2.1, hc.2, ?_⟩
            rw [a6, Int.toNat_natCast, hw1]
          · exact a5 y h
        obtain ⟨r2, b1, b2, b3, b4⟩ := bx_pre_ok hV hnp (fun y hy => hp y (List.mem_cons_of_mem _ hy)) a2 hk2 h2
        exact ⟨r2, a1.tr b1 a3, b2, Nat.le_trans a3 b3, b4⟩
      · cases h2
    · cases h
end BXC
section BXD
variable {X : (Nat → Int → Int) → Prop} {B : bx_B} {G NW : List Jvm.Cond} {AO : List String} {cl : List vw_C} {T : rx_Tb} {nm : Nat → String} {xh : rx_Xh} {l : Launch} {Dg : va_G} {L : bx_L} {A : Nat → Prop} {xa : Nat → Nat} {PX : State → Prop} {ad : Nat → Nat}
theorem bx_I0_sat : rx_sat bx_I0 (fun _ => 0) := by
  refine ⟨rfl, Nat.le_of_ble_eq_true rfl, fun n lo hi h => ?_⟩
  have hm := List.mem_of_getElem? h
  have h0 : ∀ q ∈ bx_I0, q = (0, 0) := by decide
  have := h0 _ hm
  cases this
  exact ⟨Int.le_refl _, Int.le_refl _⟩
theorem bx_con {mk : rx_Z → rx_Z → List rx_E} {f j : Nat} {M : rx_Mt} {ct : bx_Ct} {tab : bx_tab} (hGG : ∀ w ∈ G, goodWord w = true) (hPX : rx_PXOK NW A PX) (t1 : rx_frOK G NW cl nm T) (t4 : rx_kcOK G nm T) (tm : rx_mlOK G nm T) (tc : rx_cjOK G NW cl nm T) (hV : bx_VOK L B.1) (hnp : B.2.1 = L.2.1) (hdm : B.2.2.1 = L.2.2.2) (hmd : B.2.2.2 = bx_mdl ct.2.2.1) (hX : ∀ S S_p : Nat → Int → Int, X S → bx_same L (bx_mdl ct.2.2.1) S S_p → X S_p)
    (hxh : ∀ S0, X S0 → rx_xhOK xh G NW AO cl nm A xa PX l (Dg, L, S0, bx_mdl ct.2.2.1) ad ct.2.2.2.1) (hj : T.2.2.2.2.2 j = some M) (hc : bx_chk B xh T mk f M ct tab = true) : bx_Con G NW AO PX Dg L X cl A ad l M ct := by
  intro S0 vs hX0 hvs hpr
  obtain ⟨m1, m2, m3, m4, m5, m6⟩ := tm j M hj
  unfold bx_chk at hc
  split at hc
  · rename_i I0 ht0 as hent
    split at hc
    case h_2 => exact absurd hc Bool.false_ne_true
    rename_i I ht hen1
    rw [Bool.and_eq_true, Bool.and_eq_true, Bool.and_eq_true, decide_eq_true_eq, Bool.not_eq_true'] at hc
    obtain ⟨hcats, ⟨hlg, hc1⟩, hc2⟩ := hc
    rw [hmd] at hlg
    obtain ⟨Es, hex, hEs⟩ := bx_okO_ok hc1
    refine Met.ofW (cc := M.2.1) (maxL := M.2.2.1) (ret := M.2.2.2.1) m3 rfl ?_
    intro p e s m args below meth c s₁ B0 hml hv
    obtain ⟨hargs, hnw, hao, hpx, hW0, hA⟩ := hv
    subst hargs
    have hx := B0.exec
    have hb := B0.bytes
    have hr := B0.returns
    have hts0 := atoms_spec (ws := Jvm.Cond.code M.2.2.2.2.1 M.2.1 M.2.2.1 M.2.2.2.1 :: G) B0.pre
    have hts : ∀ w ∈ G, w.before vs.toArray s = true := fun w hw => hts0 w (List.mem_cons_of_mem _ hw)
    have hown : s.vm.findClass M.2.2.2.2.1.cls = some m.cls := findClass_of_methodNamed B0.named
    have hlocks := B0.notSynchronized
    have hname : meth.name = M.2.2.2.2.1.name := (name_of_methodNamed B0.named B0.method).1
    have hF : rx_Fr G NW AO PX p s m vs.toArray meth c M := ⟨hx, hb, hr, hml, hown, hlocks, hts, hnw, hao, hpx, fun hi => hname.trans (m6 hi)⟩
    obtain ⟨r0, -, a20, a30, a40, a50, a60⟩ := bx_args_ok (D := (Dg, L, S0, bx_mdl ct.2.2.1)) (ad := ad) (xa := xa) (S := S0) hV hnp hvs bx_I0_sat (fun q hq => absurd hq List.not_mem_nil) hent
    obtain ⟨r, b1, a2, b3, a4⟩ := bx_pre_ok (D := (Dg, L, S0, bx_mdl ct.2.2.1)) (ad := ad) (xa := xa) (S := S0) hV hnp hpr a20 a40 hen1
    have a5 : as.map (rx_iv r ad xa) = vs := by
      rw [rx_st_ext (M := 0) (fun v hv => a60 v hv) b1 rx_sameA.rf, a50]
    have a6 : ∀ v ∈ as, rx_sc I.length 0 v := fun v hv => rx_sc.mono (a60 v hv) b3 trivial
    have hl := lv_entry vs (n := M.2.2.1) (by rw [← a5, rx_cats_sl]; exact hcats)
    rw [lg_entry_eq]
    generalize (lg_sl vs ++ List.replicate (M.2.2.1 - (lg_sl vs).length) Slot.unset).toArray = ls at hl ⊢
    rw [← a5, ← rx_largs_lv] at hl
    have hR0 : rx_R (Dg, L, S0, bx_mdl ct.2.2.1) cl A s xa M.2.2.1 s.heap (I, [], ht, 0, 0, 0, rx_largs 0 as, []) r ad s.heap [] ls :=
      ⟨a2, fun f h => absurd h List.not_mem_nil, fun f h => absurd h List.not_mem_nil, ⟨S0, bx_W0_md hW0, va_S.rf, ⟨fun _ _ _ _ _ => rfl, fun h => by
        rw [show bx_lg (bx_mdl ct.2.2.1) = true from h] at hlg
        exact absurd hlg.symm Bool.false_ne_true⟩, a4⟩, hl, fun q hq => rx_sc.any (a6 _ (rx_largs_mem hq)), fun v hv => absurd hv List.not_mem_nil⟩
    refine bx_enter (D := (Dg, L, S0, bx_mdl ct.2.2.1)) (r := r) (fE := bx_fE B.2.2.1 ct.2.1) hlg hdm (fun cut => rx_goal hGG hPX t1 t4 tm tc hV hnp hdm hmd (hxh S0 hX0) f ct.2.2.2.1 (Nat.le_refl _) cut) m1 (fun q hq => ?_) hex hEs hF hA rfl (Nat.le_refl _) (Nat.le_refl _) (Nat.le_refl _) (Nat.le_refl _) ?_ hR0
    · have h1 := List.all_eq_true.mp hc2 q hq
      rw [Bool.and_eq_true] at h1
      exact ⟨h1.1, bx_okO_ok h1.2⟩
    · intro E hE r_p H_p locs_p ls_p pc_p k_p n_p hRE hS hk hn hrt
      have hpost : ∀ t : State, t.heap = H_p → s.WarmedH t.vm → bx_PostC Dg L X cl A ad S0 ct.2.1 ct.2.2.1 vs.toArray s (.returned (E.2.2.2.map (rx_iv r_p ad xa))) t := by
        intro t ht_p hW
        obtain ⟨b1, b2, b3, ⟨S_p, c1, ⟨c2, -⟩, c3⟩, b5⟩ := hRE
        refine ⟨⟨S_p, _, rfl, ?_, ?_, c2, hX _ _ hX0 c2⟩, hS.F ht_p⟩
        · unfold bx_fE at hE
          unfold bx_retOK
          split at hE
          · rename_i h1 h2
            rw [h1, h2]
            rfl
          · rename_i a v h1 h2
            rw [hdm] at hE
            obtain ⟨n1, n2, -⟩ := bx_fits_ok (D := (Dg, L, S0, bx_mdl ct.2.2.1)) (ad := ad) (xa := xa) b1 c3 hE
            rw [h1, h2]
            rw [b1.1] at n2
            exact ⟨_, congrArg some n1, n2⟩
          · exact absurd hE Bool.false_ne_true
        · rw [ht_p]
          exact bx_W0_md (c1.moved hW.alike)
      exact W.widen hk hn (bx_leave hx hb hr hlocks hrt hpost hS.2.2)
  · exact absurd hc Bool.false_ne_true
noncomputable def bx_fitL (dmf : Nat → Int → Bool) (I : rx_I) (ht : List rx_C) : List (Nat × bx_T) → List rx_V → Bool
  | [], [] => true
  | a :: as, v :: vs => bx_fits dmf I ht a.1 0 a.2 v && bx_fitL dmf I ht as vs
  | _, _ => false
noncomputable def bx_preC (B : bx_B) (I : rx_I) (ht : List rx_C) (ps : bx_Pr) : Bool := ps.all (fun q => match B.1.1 none (q.1 : Int) with
  | some k => decide (q.2.1 < 1000000) && (bx_tcs k q.2.1 == some q.2.2.1 && (match bx_ck ht (0, (q.1 : Int)) q.2.1 with
    | some v => bx_fits B.2.2.1 I ht q.2.2.1 0 q.2.2.2 v
    | none => (match B.1.2.1 none (q.1 : Int) (q.2.1 : Int) (q.2.1 : Int) 1 with
      | some t => t == q.2.2.2
      | none => false)))
  | none => false)
noncomputable def bx_fitP (B : bx_B) (z : rx_Z) (ct : bx_Ct) (as : List rx_V) : Bool := bx_fitL B.2.2.1 z.1 z.2.2.1 ct.1 as && bx_preC B z.1 z.2.2.1 ct.2.2.2.2
noncomputable def bx_keepC (V : bx_V) (ht : List rx_C) (ms : List (Nat × Nat)) (q : rx_C) : Bool := decide (1000000 ≤ q.1.2) || (match bx_dm ht q.1.1.1 with
  | some d => match V.1 d q.1.1.2 with
    | some k => !(bx_mdl ms (bx_mc k q.1.2).1 (bx_mc k q.1.2).2)
    | none => false
  | none => false)
noncomputable def bx_hv1 (m : Nat × Nat) : rx_C := (((0, 0), 3000000 * (2 + 3 * (m.1 * 100000 + m.2))), .inl none)
noncomputable def bx_hvk (q : rx_C) (m : Nat × Nat) : Bool := bx_isE q && (bx_kd q == 2 && ((bx_hc q).1 == m.1 && (bx_hc q).2 == m.2))
noncomputable def bx_hav : List (Nat × Nat) → List rx_C → List rx_C
  | [], ht => bx_hv1 (99999, 0) :: ht
  | m :: ms, ht => bx_hv1 m :: bx_hav ms ht
noncomputable def bx_aft (B : bx_B) (ms : List (Nat × Nat)) (ht : List rx_C) : List rx_C := match bx_lg B.2.2.2 with
  | false => ht.filter (bx_keepC B.1 ht ms)
  | true => bx_hav ms (ht.filter (bx_keepC B.1 ht ms))
noncomputable def bx_afk (B : bx_B) (ms : List (Nat × Nat)) : Bool := !(bx_lg B.2.2.2) || ms.all (fun m => bx_hvk (bx_hv1 m) m)
noncomputable def bx_bk (M_p : rx_Mt) (I : rx_I) (ht : List rx_C) (z : rx_Z) (st : List rx_V) : rx_Z := match z with
  | (_, F1, _, c0, s0, pc0, lv0, _) => (I, F1, ht, c0 + M_p.2.2.2.2.2.2.1, s0 + M_p.2.2.2.2.2.2.2, pc0 + 3, lv0, st)
noncomputable def bx_one (B : bx_B) (ct : bx_Ct) (M_p : rx_Mt) (d : Nat) (z : rx_Z) (as t : List rx_V) : Option (List rx_Z) := rx_if (decide (ct.2.2.2.1 + 1 ≤ d) && (bx_fitP B z ct as && (ct.2.2.1.all (fun p => B.2.2.2 p.1 p.2) && bx_afk B ct.2.2.1))) (match ct.2.1 with
      | none => some [bx_bk M_p z.1 (bx_aft B ct.2.2.1 z.2.2.1) z t]
      | some a => match bx_nv a.1 0 B.2.1 a.2 z.1 (bx_aft B ct.2.2.1 z.2.2.1) with
        | some (I, ht, v) => some [bx_bk M_p I ht z (v :: t)]
        | none => none)
noncomputable def bx_any (B : bx_B) (M_p : rx_Mt) (d : Nat) (z : rx_Z) (as t : List rx_V) : List bx_Ct → Option (List rx_Z)
  | [] => none
  | ct :: l => match bx_one B ct M_p d z as t with
    | some zs => some zs
    | none => bx_any B M_p d z as t l
theorem bx_any_ok {B : bx_B} {M_p : rx_Mt} {d : Nat} {z : rx_Z} {as t : List rx_V} {zs : List rx_Z} : ∀ {l : List bx_Ct}, bx_any B M_p d z as t l = some zs → ∃ ct ∈ l, bx_one B ct M_p d z as t = some zs
  | [], h => by cases h
  | ct :: l, h => by
    rw [bx_any] at h
    split at h
    · rename_i zs2 h2
      cases h
      exact ⟨ct, List.mem_cons_self, h2⟩
    · obtain ⟨c2, h3, h4⟩ := bx_any_ok h
      exact ⟨c2, List.mem_cons_of_mem _ h3, h4⟩
noncomputable def bx_hook (B : bx_B) (T : rx_Tb) (Cn : Nat → List bx_Ct) : rx_Xh := fun d M i len z => match rx_prep B T M i len z with
  | none => none
  | some (q, M_p, as, t) => bx_any B M_p d z as t (Cn q.2.2.2)
theorem bx_fitL_ok {D : bx_D} {S : Nat → Int → Int} {I : rx_I} {ht : List rx_C} {r : Nat → Int} (hs : rx_sat I r) (hk : bx_kns D ad xa S I.length ht r) : ∀ {args : List (Nat × bx_T)} {as : List rx_V}, bx_fitL D.2.1.2.2.2 I ht args as = true → bx_argOK D.2.1 ad args (as.map (rx_iv r ad xa))
  | [], [], _ => rfl
  | [], _ :: _, h => absurd (show false = true from h) Bool.false_ne_true
  | _ :: _, [], h => absurd (show false = true from h) Bool.false_ne_true
  | a :: args, v :: vs, h => by
    rw [bx_fitL, Bool.and_eq_true] at h
    obtain ⟨n1, n2, -⟩ := bx_fits_ok (ad := ad) (xa := xa) hs hk h.1
    rw [hs.1] at n2
    exact ⟨bx_num r v, vs.map (rx_iv r ad xa), by rw [List.map_cons, n1], n2, bx_fitL_ok hs hk h.2⟩
theorem bx_preC_ok {D : bx_D} {S : Nat → Int → Int} {I : rx_I} {ht : List rx_C} {r : Nat → Int} {ps : bx_Pr} (hV : bx_VOK D.2.1 B.1) (hdm : B.2.2.1 = D.2.1.2.2.2) (hs : rx_sat I r) (hk : bx_kns D ad xa S I.length ht r) (hI : bx_Inv D.2.1 S) (h : bx_preC B I ht ps = true) : bx_preOK D.2.1 ad S ps := fun q hq => by
  have h1 := List.all_eq_true.mp h q hq
  split at h1
  · rename_i kd hkd
    rw [Bool.and_eq_true, Bool.and_eq_true, decide_eq_true_eq, beq_iff_eq] at h1
    obtain ⟨g1, g2, g3⟩ := h1
    obtain ⟨p1, p2, p3⟩ := hV.1 none _ _ hkd 0 rfl
    rw [Int.zero_add, Int.toNat_natCast] at p2 p3
    split at g3
    · rename_i v hck
      rw [hdm] at g3
      obtain ⟨k1, k2, k3⟩ := hk _ (bx_ck_ok hck)
      unfold bx_kn at k3
      rw [if_neg (by dsimp only; omega)] at k3
      dsimp only at k3
      rw [rx_ev0 hs, Int.toNat_natCast] at k3
      obtain ⟨-, -, tc2, v4, v5⟩ := k3
      rw [p3, g2] at v4
      cases v4
      obtain ⟨n1, n2, -⟩ := bx_fits_ok (ad := ad) (xa := xa) hs hk g3
      rw [hs.1] at n2
      exact ⟨bx_num r v, by rw [← n1, v5], n2⟩
    · split at g3
      · rename_i t ht2
        have g3 := eq_of_beq g3
        subst g3
        refine ⟨S q.1 (q.2.1 : Int), rfl, ?_⟩
        have hw : q.2.1 < bx_wd (D.2.1.1 q.1) := by
          rw [p3]
          exact bx_tcs_wd g2
        have hin := hI q.1 q.2.1 p2 hw
        refine hV.2.1 none _ _ _ _ _ ht2 0 rfl (q.2.1 : Int) _ (Int.le_refl _) (Int.le_refl _) (Int.emod_one _) ?_
        rw [Int.zero_add, Int.toNat_natCast]
        exact hin
      · exact absurd g3 Bool.false_ne_true
  · exact absurd h1 Bool.false_ne_true
theorem bx_keepC_ok {D : bx_D} {S S_p : Nat → Int → Int} {ht : List rx_C} {N : Nat} {I : rx_I} {r : Nat → Int} {ms : List (Nat × Nat)} (hV : bx_VOK D.2.1 B.1) (hs : rx_sat I r) (hk : bx_kns D ad xa S N ht r) (hsm : bx_same D.2.1 (bx_mdl ms) S S_p) : bx_kns D ad xa S_p N (ht.filter (bx_keepC B.1 ht ms)) r := fun q hq => by
  obtain ⟨h1, h2⟩ := List.mem_filter.mp hq
  obtain ⟨g1, g2, g3⟩ := hk q h1
  refine ⟨g1, g2, ?_⟩
  unfold bx_kn at g3 ⊢
  split
  · rename_i hc
    rw [if_pos hc] at g3
    exact g3
  · rename_i hc
    rw [if_neg hc] at g3
    obtain ⟨a1, a2, tc2, a4, a5⟩ := g3
    refine ⟨a1, a2, tc2, a4, ?_⟩
    rw [a5]
    unfold bx_keepC at h2
    rw [Bool.or_eq_true, decide_eq_true_eq] at h2
    rcases h2 with h2 | h2
    · exact absurd h2 hc
    · split at h2
      · rename_i d hd
        split at h2
        · rename_i kd hkd
          obtain ⟨p1, p2, p3⟩ := hV.1 d q.1.1.2 _ hkd _ (bx_dm_ok hs hk hd)
          have p3 : D.2.1.1 (rx_ev r q.1.1).toNat = kd := p3
          have hwd := bx_tcs_wd a4
          rw [hsm _ _ a2 hwd (by rw [p3]; simpa using h2)]
        · exact absurd h2 Bool.false_ne_true
      · exact absurd h2 Bool.false_ne_true
theorem bx_hav_ok {L : bx_L} {N : Nat} {r : Nat → Int} {S0 : Nat → Int → Int} {ht : List rx_C} : ∀ {ms : List (Nat × Nat)} {S S_p : Nat → Int → Int}, ms.all (fun m => bx_hvk (bx_hv1 m) m) = true → bx_chain L N r S0 ht S → bx_same L (bx_mdl ms) S S_p → bx_chain L N r S0 (bx_hav ms ht) S_p
  | [], S, S_p, _, h, hs => by
    have hk : bx_kd (bx_hv1 (99999, 0)) = 2 := by decide
    refine bx_chain_evt (by decide) ⟨⟨trivial, fun g => absurd g (by rw [hk]; omega)⟩, ?_⟩
    rw [if_neg (by rw [hk]; omega), if_neg (by rw [hk]; omega)]
    exact ⟨S, h, fun p i hp hi _ => hs p i hp hi rfl⟩
  | m :: ms, S, S_p, hm, h, hs => by
    rw [List.all_cons, Bool.and_eq_true] at hm
    obtain ⟨hm1, hm2⟩ := hm
    unfold bx_hvk at hm1
    rw [Bool.and_eq_true, Bool.and_eq_true, Bool.and_eq_true, beq_iff_eq, beq_iff_eq, beq_iff_eq] at hm1
    obtain ⟨k1, k2, k3, k4⟩ := hm1
    have hS1 : bx_same L (bx_mdl ms) S (fun p j => if bx_mc (L.1 p) j.toNat = m then S p j else S_p p j) := fun p i hp hi hmd => by
      show (if bx_mc (L.1 p) (i : Int).toNat = m then S p i else S_p p i) = S p i
      rw [Int.toNat_natCast]
      split
      · rfl
      · rename_i hne
        refine hs p i hp hi ?_
        unfold bx_mdl at hmd ⊢
        rw [List.any_cons, hmd, Bool.or_false, Bool.and_eq_false_iff]
        by_cases h1 : m.1 = (bx_mc (L.1 p) i).1
        · refine Or.inr (beq_false_of_ne fun h2 => hne ?_)
          exact (Prod.ext h1 h2).symm
        · exact Or.inl (beq_false_of_ne h1)
    refine bx_chain_evt k1 ⟨⟨trivial, fun g => absurd g (by rw [k2]; omega)⟩, ?_⟩
    rw [if_neg (by rw [k2]; omega), if_neg (by rw [k2]; omega)]
    refine ⟨_, bx_hav_ok hm2 h hS1, fun p i hp hi hne => ?_⟩
    show S_p p i = if bx_mc (L.1 p) (i : Int).toNat = m then S p i else S_p p i
    rw [Int.toNat_natCast, if_neg]
    intro hq
    exact hne (hq.trans (Prod.ext k3 k4).symm)
theorem bx_hav_kns {D : bx_D} {V : bx_V} {S : Nat → Int → Int} {N : Nat} {I : rx_I} {r : Nat → Int} {ht : List rx_C} (hV : bx_VOK D.2.1 V) (hs : rx_sat I r) (h0 : 0 < N) : ∀ {ms : List (Nat × Nat)}, ms.all (fun m => bx_hvk (bx_hv1 m) m) = true → bx_kns D ad xa S N ht r → bx_kns D ad xa S N (bx_hav ms ht) r
  | [], _, h => bx_kns.evt hV hs h0 h (by decide) rfl trivial
  | m :: ms, hm, h => by
    rw [List.all_cons, Bool.and_eq_true] at hm
    refine bx_kns.evt hV hs h0 (bx_hav_kns hV hs h0 hm.2 h) ?_ rfl trivial
    have hm1 := hm.1
    unfold bx_hvk at hm1
    rw [Bool.and_eq_true] at hm1
    exact hm1.1
theorem bx_aft_ok {D : bx_D} {S S_p S0 : Nat → Int → Int} {ht : List rx_C} {N : Nat} {I : rx_I} {r : Nat → Int} {ms : List (Nat × Nat)} (hV : bx_VOK D.2.1 B.1) (hs : rx_sat I r) (h0 : 0 < N) (hmd : B.2.2.2 = D.2.2.2) (hk : bx_kns D ad xa S N ht r) (hch : bx_lg D.2.2.2 = true → bx_chain D.2.1 N r S0 ht S) (hsm : bx_same D.2.1 (bx_mdl ms) S S_p) (ha : bx_afk B ms = true) :
    bx_kns D ad xa S_p N (bx_aft B ms ht) r ∧ (bx_lg D.2.2.2 = true → bx_chain D.2.1 N r S0 (bx_aft B ms ht) S_p) := by
  unfold bx_aft
  unfold bx_afk at ha
  rw [← hmd] at hch ⊢
  have h1 := bx_keepC_ok hV hs hk hsm
  split
  · rename_i hl
    exact ⟨h1, fun h => by rw [hl] at h; exact absurd h Bool.false_ne_true⟩
  · rename_i hl
    rw [hl, Bool.not_true, Bool.false_or] at ha
    refine ⟨bx_hav_kns hV hs h0 ha h1, fun _ => bx_hav_ok ha (bx_chain_filter (fun y hy => ?_) (hch hl)) hsm⟩
    have := bx_isE_le hy
    unfold bx_keepC
    rw [decide_eq_true (show 1000000 ≤ y.1.2 by omega), Bool.true_or]
theorem bx_hook_ok {Cn : Nat → List bx_Ct} {dm : Nat} {S0 : Nat → Int → Int} {md : Nat → Nat → Bool} (hGG : ∀ w ∈ G, goodWord w = true) (hPX : rx_PXOK NW A PX) (tm : rx_mlOK G nm T) (tc : rx_cjOK G NW cl nm T) (hV : bx_VOK L B.1) (hnp : B.2.1 = L.2.1) (hdm : B.2.2.1 = L.2.2.2) (hmd : B.2.2.2 = md) (hXm : ∀ S : Nat → Int → Int, bx_same L md S0 S → X S)
    (hC : ∀ (j : Nat) (ct : bx_Ct) (M : rx_Mt), ct ∈ Cn j → ct.2.2.2.1 + 1 ≤ dm → T.2.2.2.2.2 j = some M → bx_Con G NW AO PX Dg L X cl A ad l M ct) : rx_xhOK (bx_hook B T Cn) G NW AO cl nm A xa PX l (Dg, L, S0, md) ad dm := by
  intro d M i len z zs hdm2 h hn p e R s m args below meth c Q H0 H locs ls r hF hA hH0 hmc hms hd hdl hdg hR K
  unfold bx_hook at h
  split at h
  · cases h
  · rename_i q M_p as t hprep
    · obtain ⟨ct, hct, h⟩ := bx_any_ok h
      unfold bx_one at h
      obtain ⟨hcond, h2⟩ := rx_if_ok h
      clear h
      rw [Bool.and_eq_true, Bool.and_eq_true, Bool.and_eq_true, decide_eq_true_eq] at hcond
      obtain ⟨g1, g2, g3, g4⟩ := hcond
      unfold bx_fitP at g2
      rw [Bool.and_eq_true] at g2
      obtain ⟨g2, g2p⟩ := g2
      obtain ⟨has, htsc, hcats, hlen3, hM_p⟩ := rx_prep_sc hR hprep
      subst hlen3
      obtain ⟨S, hW, hS, hsm, hkn⟩ := id hR.2.2.2.1
      rw [hdm] at g2
      have hargs := bx_fitL_ok (D := (Dg, L, S0, md)) (ad := ad) (xa := xa) hR.1 hkn g2
      have hprC := bx_preC_ok (D := (Dg, L, S0, md)) (ad := ad) (xa := xa) hV hdm hR.1 hkn (by obtain ⟨ws, tys, hI, -⟩ := hW; exact hI) g2p
      have hMet := hC _ _ _ hct (Nat.le_trans g1 hdm2) hM_p S _ (hXm S hsm.1) hargs hprC
      have hblind : FrameBlind (va_Pc (as.map (rx_iv r ad xa)) (bx_PreC NW AO PX Dg L cl A ad S)) := fun a U g mk h => by
        obtain ⟨h0, h1, h2, h3, h4, h5⟩ := h
        exact ⟨h0, fun w hw => va_Nw.same (u := U) (U := U.calling g mk a) (hPX.1 w hw).1 rfl (h1 w hw), fun C hC => va_AO.moved (Vm.Alike.refl U.vm) (h2 C hC), hPX.2.1 U g mk a h3, h4.moved (U := U.calling g mk a) (Vm.Alike.refl U.vm), h5⟩
      have hpre : ∀ U : State, U.heap = H → s.WarmedH U.vm → bx_PreC NW AO PX Dg L cl A ad S U := fun U hU hWm => by
        obtain ⟨k1, k2, k3, -, k5⟩ := rx_pre_at hPX hF hA hH0 hR U hU hWm
        refine ⟨k1, k2, k3, ?_, k5⟩
        rw [hU]
        exact bx_W0_md (hW.moved hWm.alike)
      have hrun := bx_call (l := l) (D := (Dg, L, S0, md)) (below := below) (e := e) hGG tm tc hV hn hF hmc hms (Nat.le_trans g1 hd) (by have := Nat.mul_le_mul_right 40 g1; omega) hR hdg hprep hMet hblind hpre
      refine rx_call hrun hS (fun _ _ _ h => h.2) fun v st tt H1 locs1 ht hst hvm hpost hS1 => ?_
      obtain ⟨⟨S_p, rv, hov, hret, hW_p, hsame, hX_p⟩, -⟩ := hpost
      cases hov
      rw [ht] at hW_p
      have hW1 : bx_W0 (Dg, L, S0, md) cl A s ad S_p H1 := bx_W0_md (hW_p.moved hvm.symm)
      have hsm1 : bx_same L md S0 S_p := fun p_p i_p hp_p hi_p hm_p => by
        have hmd2 : bx_mdl ct.2.2.1 (bx_mc (L.1 p_p) i_p).1 (bx_mc (L.1 p_p) i_p).2 = false := by
          refine Bool.eq_false_iff.mpr fun hh => ?_
          unfold bx_mdl at hh
          obtain ⟨x, hx1, hx2⟩ := List.any_eq_true.mp hh
          rw [Bool.and_eq_true, beq_iff_eq, beq_iff_eq] at hx2
          have := List.all_eq_true.mp g3 x hx1
          rw [hx2.1, hx2.2, hmd, hm_p] at this
          exact Bool.false_ne_true this
        rw [hsame p_p i_p hp_p hi_p hmd2]
        exact hsm.1 p_p i_p hp_p hi_p hm_p
      obtain ⟨hkn1, hch1⟩ := bx_aft_ok (D := (Dg, L, S0, md)) (B := B) (S0 := S0) hV hR.1 (rx_pos hR.1) hmd hkn hsm.2 hsame g4
      split at h2
      · rename_i hr0
        cases h2
        rw [hr0] at hret
        have hret : v = none := hret
        subst hret
        refine rx_at (K _ List.mem_cons_self) rx_same.rf rx_sameA.rf ⟨hR.1, hR.2.1, hR.2.2.1, ⟨S_p, hW1, hS1, ⟨hsm1, hch1⟩, hkn1⟩, hR.2.2.2.2.1, fun y hy => rx_sc.any (hR.2.2.2.2.2.1 y hy), fun y hy => rx_sc.any (htsc y hy)⟩ rfl rfl rfl rfl
      · rename_i a hr0
        split at h2
        · rename_i I2 ht2 v2 hnv
          cases h2
          rw [hr0] at hret
          obtain ⟨w, hrv, hokw⟩ := hret
          subst hrv
          obtain ⟨r_p, q1, q2, q3, q4, q5, q6, -, q8⟩ := bx_nv_ok (D := (Dg, L, S0, md)) (w := w) hV hnp hR.1 (rx_pos hR.1) hkn1 hnv (by rw [hR.1.1]; exact hokw)
          refine rx_at (K _ List.mem_cons_self) q1 rx_sameA.rf ⟨q2, rx_facts_ext hR.2.1 hR.2.2.1 q1, hR.2.2.1.mono q3, ⟨S_p, hW1, hS1, ⟨hsm1, fun hl => q8 _ (hch1 hl)⟩, q5⟩, ?_, fun y hy => rx_sc.any (rx_sc.mono (M_p := 0) (rx_lvsc hR y hy) q3 trivial), fun y hy => ?_⟩ rfl rfl rfl ?_ q3
          · have hl := rx_lvh hR
            show lv_has ls M.2.2.1 (rx_lvs r_p ad xa (rx_zlv z))
            rw [rx_lvs_ext (rx_lvsc hR) q1 rx_sameA.rf]
            exact hl
          · rcases List.mem_cons.mp hy with h | h
            · subst h; exact rx_sc.any q4
            · exact rx_sc.any (rx_sc.mono (M_p := 0) (htsc y h) q3 trivial)
          · show rx_iv r_p ad xa v2 :: t.map (rx_iv r_p ad xa) = _
            rw [q6, rx_st_ext htsc q1 rx_sameA.rf]
            rfl
        · cases h2
end BXD
end
section
noncomputable abbrev rx_Act : Type := Nat → rx_Z → Option (List rx_Z)
noncomputable abbrev rx_Ent : Type := rx_Act ⊕ ((rx_Z → Option rx_End) ⊕ (Nat × rx_Mt × (rx_Z → Option (List rx_V × List rx_V))))
noncomputable def rx_ex2 (ct : Nat → Nat → Option rx_Ent) : (rx_Z → Bool) → Nat → Nat → Nat → rx_Z → Option (List rx_End)
  | _, 0, _, _, _ => none
  | cut, f + 1, d, j, (I, F, ht, c, s, pc, lv, st) => match ct j pc with
    | none => none
    | some (.inl g) => match g d (I, F, ht, c, s, pc, lv, st) with
      | none => none
      | some zs => rx_bind (fun z_p => match cut z_p with
        | true => some []
        | false => rx_ex2 ct cut f d j z_p) zs
    | some (.inr (.inl g)) => match g (I, F, ht, c, s, pc, lv, st) with
      | none => none
      | some E => some [E]
    | some (.inr (.inr (j_p, M_p, g))) => match d with
      | 0 => none
      | d_p + 1 => match g (I, F, ht, c, s, pc, lv, st) with
        | none => none
        | some (as, t) => match rx_ex2 ct (fun _ => false) f d_p j_p (I, F, ht, 0, 0, 0, rx_largs 0 as, []) with
          | none => none
          | some Es => rx_bind (fun E => rx_ex2 ct cut f (d_p + 1) j (rx_back M_p (I, F, ht, c, s, pc, lv, st) t E)) Es
noncomputable def rx_entOK (B : bx_B) (xh : rx_Xh) (T : rx_Tb) (M : rx_Mt) (pc : Nat) (e : rx_Ent) : Prop :=
  ∃ (i : Instr) (len : Nat), decode M.2.1 pc = .ok (i, len) ∧ match e with
    | .inl g => ∀ (d : Nat) (I : rx_I) (F : rx_F) (ht : List rx_C) (c s : Nat) (lv : List (Nat × rx_V)) (st : List rx_V), rx_retk M i len (I, F, ht, c, s, pc, lv, st) = none ∧
        ∀ zs, g d (I, F, ht, c, s, pc, lv, st) = some zs → rx_or (xh d M i len (I, F, ht, c, s, pc, lv, st)) (rx_step B T M i len (decode M.2.1 (pc + 1)) (I, F, ht, c, s, pc, lv, st)) = some zs
    | .inr (.inl g) => ∀ (I : rx_I) (F : rx_F) (ht : List rx_C) (c s : Nat) (lv : List (Nat × rx_V)) (st : List rx_V) (E : rx_End), g (I, F, ht, c, s, pc, lv, st) = some E → rx_retk M i len (I, F, ht, c, s, pc, lv, st) = some E
    | .inr (.inr (j_p, M_p, g)) => T.2.2.2.2.2 j_p = some M_p ∧ ∀ (d : Nat) (I : rx_I) (F : rx_F) (ht : List rx_C) (c s : Nat) (lv : List (Nat × rx_V)) (st : List rx_V), rx_retk M i len (I, F, ht, c, s, pc, lv, st) = none ∧
        rx_or (xh d M i len (I, F, ht, c, s, pc, lv, st)) (rx_step B T M i len (decode M.2.1 (pc + 1)) (I, F, ht, c, s, pc, lv, st)) = none ∧
        ∀ as t, g (I, F, ht, c, s, pc, lv, st) = some (as, t) → ∃ q, rx_prep B T M i len (I, F, ht, c, s, pc, lv, st) = some (q, M_p, as, t)
theorem rx_ex2_ok {B : bx_B} {xh : rx_Xh} {T : rx_Tb} {ct : Nat → Nat → Option rx_Ent} (hct : ∀ j M pc e, T.2.2.2.2.2 j = some M → ct j pc = some e → rx_entOK B xh T M pc e) :
    ∀ (f d j : Nat) (cut : rx_Z → Bool) (M : rx_Mt) (z : rx_Z) (Es : List rx_End), T.2.2.2.2.2 j = some M → rx_ex2 ct cut f d j z = some Es → rx_exec B xh T cut f d M z = some Es := by
  intro f
  induction f with
  | zero =>
    intro d j cut M z Es _ h
    exact absurd (show (none : Option (List rx_End)) = some Es from h) (fun q => by cases q)
  | succ f ih =>
    intro d j cut M z Es hM h
    obtain ⟨I, F, ht, c, s, pc, lv, st⟩ := z
    rw [rx_ex2] at h
    rw [rx_exec]
    have hb : ∀ {α : Type} (zs : List α) (g1 g2 : α → Option (List rx_End)) (Es : List rx_End), (∀ a Es, g1 a = some Es → g2 a = some Es) → rx_bind g1 zs = some Es → rx_bind g2 zs = some Es := by
      intro α zs g1 g2 Es hg
      induction zs generalizing Es with
      | nil => exact fun h => h
      | cons a l ihl =>
        intro h
        rw [rx_bind] at h ⊢
        split at h
        · cases h
        · rename_i x hx
          split at h
          · cases h
          · rename_i y hy
            rw [hg a x hx, ihl y hy]
            exact h
    split at h
    · cases h
    · rename_i g hg
      obtain ⟨i, len, hd, hk⟩ := hct j M pc _ hM hg
      have hk := hk d I F ht c s lv st
      have hd2 : decode M.2.1 (rx_zpc (I, F, ht, c, s, pc, lv, st)) = .ok (i, len) := hd
      rw [hd2]
      dsimp only
      rw [hk.1]
      split at h
      · cases h
      · rename_i zs hzs
        have h3 := hk.2 zs hzs
        have h4 : rx_or (xh d M i len (I, F, ht, c, s, pc, lv, st)) (rx_step B T M i len (decode M.2.1 (rx_zpc (I, F, ht, c, s, pc, lv, st) + 1)) (I, F, ht, c, s, pc, lv, st)) = some zs := h3
        dsimp only
        rw [h4]
        refine hb zs _ _ Es (fun a Es_p h => ?_) h
        cases hcut : cut a with
        | true =>
          rw [hcut] at h
          rw [if_pos rfl]
          exact h
        | false =>
          rw [hcut] at h
          rw [if_neg Bool.false_ne_true]
          exact ih d j cut M a Es_p hM h
    · rename_i g hg
      obtain ⟨i, len, hd, hk⟩ := hct j M pc _ hM hg
      have hk := hk I F ht c s lv st
      have hd2 : decode M.2.1 (rx_zpc (I, F, ht, c, s, pc, lv, st)) = .ok (i, len) := hd
      rw [hd2]
      split at h
      · cases h
      · rename_i E hE
        dsimp only
        rw [hk E hE]
        exact h
    · rename_i j_p M_p g hg
      obtain ⟨i, len, hd, hj, hk⟩ := hct j M pc _ hM hg
      have hk := hk d I F ht c s lv st
      have hd2 : decode M.2.1 (rx_zpc (I, F, ht, c, s, pc, lv, st)) = .ok (i, len) := hd
      rw [hd2]
      dsimp only
      rw [hk.1]
      have h4 : rx_or (xh d M i len (I, F, ht, c, s, pc, lv, st)) (rx_step B T M i len (decode M.2.1 (rx_zpc (I, F, ht, c, s, pc, lv, st) + 1)) (I, F, ht, c, s, pc, lv, st)) = none := hk.2.1
      dsimp only
      rw [h4]
      dsimp only
      cases d with
      | zero => cases h
      | succ d_p =>
        dsimp only at h ⊢
        split at h
        · cases h
        · rename_i as t hast
          obtain ⟨q, hq⟩ := hk.2.2 as t hast
          rw [hq]
          dsimp only
          split at h
          · cases h
          · rename_i Es_p hEs_p
            have h5 := ih d_p j_p (fun _ => false) M_p _ Es_p hj hEs_p
            have h6 : rx_exec B xh T (fun _ => false) f d_p M_p (rx_z0 (I, F, ht, c, s, pc, lv, st) as) = some Es_p := h5
            rw [h6]
            dsimp only
            exact hb Es_p _ _ Es (fun a Es_pp h => ih (d_p + 1) j cut M _ Es_pp hM h) h
end
