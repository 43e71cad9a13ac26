/-! A REFLECTED MACHINE, part 12: the soundness of runs -/
/-- what goes with a start into every call -/
def ry_PXOK (NW : List Jvm.Cond) (A : Nat → Prop) (PX : State → Prop) : Prop :=
  (∀ w ∈ NW, w.onTables = true ∧ ∀ (s U : State), s.WarmedH U.vm → va_Nw w s → va_Nw w U) ∧ (∀ (U : State) (g : JFrame) (mk : MethodId) (a : Array Value), PX U → PX (U.calling g mk a)) ∧
  ∀ u U : State, PX u → u.WarmedH U.vm → (∀ a : Nat, a < u.heap.size → ¬ A a → U.heap[a]? = u.heap[a]?) → PX U
def ry_xhOK (xh : ry_Xh) (G NW : List Jvm.Cond) (AO : List String) (cl : List vw_C) (nm : Nat → String) (A : Nat → Prop) (xa : Nat → Nat) (PX : State → Prop) (l : Launch) (D : va_G) : Prop :=
  ∀ (d : Nat) (M : ry_Mt) (i : Instr) (len : Nat) (z : ry_Z) (zs : List ry_Z), xh d M i len z = some zs → nm M.1 = M.2.2.2.2.1.cls →
  ∀ {p : Program} {e : Env} {R : Room} {s : State} {m : MethodId} {args : Array Value} {below : List Frame} {meth : Method} {c : Code} {Q : State → Prop} {H0 H : Heap} {locs : List Loc} {ls : Array Slot} {r : Nat → Int} {ad : Nat → Nat},
    ry_Fr G NW AO PX p s m args meth c M → (∀ q, H0.size ≤ q → A q) → H0 = s.heap → M.2.2.2.2.2.2.1 ≤ R.cells → M.2.2.2.2.2.2.2 ≤ R.slots → d ≤ R.frames → d * 40 ≤ R.locals → decode M.2.1 (ry_zpc z) = .ok (i, len) → ry_R D cl A s xa M.2.2.1 H0 z r ad H locs ls →
    (∀ z_p ∈ zs, ry_G p l e R s m args below meth c Q D cl A xa M.2.2.1 H0 z.1.length z.2.2.1.length r ad z_p) →
    W p l e R s m args below meth c H locs z.2.2.2.1 z.2.2.2.2.1 Q (F0 m (ry_zpc z) ls ((ry_zst z).map (ry_iv r ad xa)))
theorem ry_rcv_ok {ht : List ry_C} {ci k : Nat} {t t2 : List ry_V} (h : ry_rcv ht ci t = some (k, t2)) : t = .inl (some k) :: t2 ∧ ∃ fs, ht[k]? = some (.inl (ci, fs)) := by
  unfold ry_rcv at h
  split at h
  · rename_i k0 t0 hpr
    split at h
    · rename_i ci' fs hht
      obtain ⟨h1, h2⟩ := ry_ifn h
      cases h2
      subst h1
      exact ⟨ry_pr_ok hpr, fs, hht⟩
    · cases h
  · cases h
theorem ry_prep_ok {T : ry_Tb} {M M_p : ry_Mt} {i : Instr} {len : Nat} {z : ry_Z} {q : ry_J} {as t : List ry_V} (h : ry_prep T M i len z = some (q, M_p, as, t)) :
    ∃ op idx, ry_cidx i = some (op, idx) ∧ len = 3 ∧ T.2.2.2.2.1 M.1 idx = some q ∧ T.2.2.2.2.2 q.2.2.2 = some M_p ∧ q.1 % 3 = op ∧ q.1 < 6 ∧ ry_may M M_p z as t = true ∧
      ((op = 1 ∧ as.length = q.2.1 ∧ ry_zst z = as.reverse ++ t) ∨ (op ≠ 1 ∧ ∃ (k : Nat) (as2 : List ry_V) (fs : List ry_X), as = .inl (some k) :: as2 ∧ as2.length = q.2.1 ∧ ry_zst z = as2.reverse ++ .inl (some k) :: t ∧ z.2.2.1[k]? = some (.inl (q.2.2.1, fs)))) := by
  unfold ry_prep at h
  split at h
  · cases h
  · rename_i op idx hc
    split at h
    · cases h
    · rename_i q0 hq
      split at h
      · rename_i M0 as0 t0 hM hta
        obtain ⟨h1, h2⟩ := ry_if_ok h
        rw [Bool.and_eq_true, Bool.and_eq_true, beq_iff_eq, beq_iff_eq, decide_eq_true_eq] at h1
        obtain ⟨hl, ho, h6⟩ := h1
        obtain ⟨g1, g2⟩ := ry_take_ok hta
        rw [List.length_nil, Nat.add_zero] at g1
        rw [List.reverse_nil, List.nil_append] at g2
        split at h2
        · rename_i hop
          obtain ⟨h3, h4⟩ := ry_if_ok h2
          cases h4
          exact ⟨op, idx, hc, hl, hq, hM, ho, h6, h3, Or.inl ⟨hop, g1, g2⟩⟩
        · rename_i hop
          split at h2
          · rename_i k t2 hrc
            obtain ⟨h3, h4⟩ := ry_if_ok h2
            cases h4
            obtain ⟨k1, fs, k2⟩ := ry_rcv_ok hrc
            exact ⟨op, idx, hc, hl, hq, hM, ho, h6, h3, Or.inr ⟨hop, k, as0, fs, rfl, g1, by rw [g2, k1], k2⟩⟩
          · cases h2
      · cases h
theorem ry_cidx_ok {i : Instr} {op idx : Nat} (h : ry_cidx i = some (op, idx)) : (op = 0 ∧ i = .invokevirtual idx) ∨ (op = 1 ∧ i = .invokestatic idx) ∨ (op = 2 ∧ i = .invokespecial idx) := by
  unfold ry_cidx at h
  split at h
  · cases h; exact Or.inl ⟨rfl, rfl⟩
  · cases h; exact Or.inr (Or.inl ⟨rfl, rfl⟩)
  · cases h; exact Or.inr (Or.inr ⟨rfl, rfl⟩)
  · cases h
theorem ry_Scr.to {lw : Bool} {A : Nat → Prop} {s : State} {xa : Nat → Nat} {H0 : Heap} {r r_p : Nat → Int} {N : Nat} (h : ry_Scr lw A s xa H0 r) (hN : 8 ≤ N) (hr : ry_same N r r_p) : ry_Scr lw A s xa H0 r_p := fun hl => by
  obtain ⟨L, xs, h1, h2, h3, h4, h5⟩ := h hl
  exact ⟨L, xs, h1, h2, h3, by rw [hr 1 (by omega)]; exact h4, fun j hj => by rw [hr (2 + j) (by omega)]; exact h5 j hj⟩
section RYG
variable {G NW : List Jvm.Cond} {AO : List String} {cl : List vw_C} {T : ry_Tb} {nm : Nat → String} {xh : ry_Xh}
variable {p : Program} {l : Launch} {e : Env} {R : Room} {s : State} {m : MethodId} {args : Array Value} {below : List Frame} {meth : Method} {c : Code} {Q : State → Prop}
variable {D : va_G} {A : Nat → Prop} {xa : Nat → Nat} {H0 H : Heap} {locs : List Loc} {ls : Array Slot} {r : Nat → Int} {ad : Nat → Nat} {PX : State → Prop}
theorem ry_blind {z : ry_Z} {as : List Value} (hPX : ry_PXOK NW A PX) : FrameBlind (va_Pc as (ry_Pre NW AO PX D cl A xa z r ad)) := fun a U g mk h => by
  obtain ⟨h0, h1, h2, h3, h4, h5⟩ := h
  exact ⟨h0, fun w hw => va_Nw.same (u := U) (U := U.calling g mk a) (hPX.1 w hw).1 rfl (h1 w hw), fun C hC => va_AO.moved (Vm.Alike.refl U.vm) (h2 C hC), hPX.2.1 U g mk a h3, h4.moved (U := U.calling g mk a) (Vm.Alike.refl U.vm), h5⟩
theorem ry_pre_at {z : ry_Z} {M : ry_Mt} (hPX : ry_PXOK NW A PX) (hF : ry_Fr G NW AO PX p s m args meth c M) (hA : ∀ q, H0.size ≤ q → A q) (hH0 : H0 = s.heap) (hR : ry_R D cl A s xa M.2.2.1 H0 z r ad H locs ls) (U : State) (hU : U.heap = H) (hW : s.WarmedH U.vm) : ry_Pre NW AO PX D cl A xa z r ad U := by
  obtain ⟨hW0, hS⟩ := hR.2.2.2.1.to0
  refine ⟨fun w hw => (hPX.1 w hw).2 s U hW (hF.2.2.2.2.2.2.2.1 w hw), fun C hC => va_AO.moved hW.alike (hF.2.2.2.2.2.2.2.2.1 C hC), hPX.2.2 s U hF.2.2.2.2.2.2.2.2.2.1 hW (fun a h1 h2 => ?_), ?_, fun q hq => hA q ?_⟩
  · rw [hU, ← hH0]
    exact hS.2.1 a (by rw [hH0]; exact h1) h2
  · rw [hU]
    exact hW0.moved hW.alike
  · rw [hU] at hq
    exact Nat.le_trans hS.1 hq
set_option maxHeartbeats 2000000 in
/-- a call of a method of the tables -/
theorem ry_run {f d : Nat} {M M_p : ry_Mt} {i : Instr} {len : Nat} {z : ry_Z} {q : ry_J} {as t : List ry_V} {Es : List ry_End} (hGG : ∀ w ∈ G, goodWord w = true) (hPX : ry_PXOK NW A PX) (tm : ry_mlOK G nm T) (tc : ry_cjOK G NW cl nm T) (ih : ry_Goal f d false xh T G NW AO cl nm A xa PX l D) (hn : nm M.1 = M.2.2.2.2.1.cls)
    (hF : ry_Fr G NW AO PX p s m args meth c M) (hA : ∀ q, H0.size ≤ q → A q) (hH0 : H0 = s.heap) (hmc : M.2.2.2.2.2.2.1 ≤ R.cells) (hms : M.2.2.2.2.2.2.2 ≤ R.slots) (hd : d + 1 ≤ R.frames) (hdl : (d + 1) * 40 ≤ R.locals) (hR : ry_R D cl A s xa M.2.2.1 H0 z r ad H locs ls) (hdg : decode M.2.1 (ry_zpc z) = .ok (i, len))
    (hprep : ry_prep T M i len z = some (q, M_p, as, t)) (hex : ry_exec xh T f d false M_p (ry_z0 z as) = some Es) :
    ∃ as2 : List ry_V, va_Run p l e R s m args below meth c H locs z.2.2.2.1 z.2.2.2.2.1 M_p.2.2.2.2.2.2.1 M_p.2.2.2.2.2.2.2 (F0 m (ry_zpc z) ls ((ry_zst z).map (ry_iv r ad xa))) (t.map (ry_iv r ad xa)) (ry_Post D cl A xa z.1.length z.2.2.1.length r ad Es (as2.map (ry_iv r ad xa)).toArray) A := by
  obtain ⟨op, idx, hci, hlen, hq, hM', hop, h6, hmay, hshape⟩ := ry_prep_ok hprep
  subst hlen
  unfold ry_may at hmay
  simp only [Bool.and_eq_true, decide_eq_true_eq] at hmay
  obtain ⟨y1, y2, y3, y4, y5⟩ := hmay
  obtain ⟨m1, m2, m3, m4, m5, m6⟩ := tm _ _ hM'
  obtain ⟨c1, c2, c3, c4, c5, c6, c7⟩ := tc _ _ _ _ hq hM'
  rw [hn] at c2 c3
  obtain ⟨hx, hb, hr, hml, hown, hlk, hts, hnw, hao, hpx, hini⟩ := id hF
  have hst := ry_stsc hR
  have has : ∀ v ∈ as, ry_sc z.1.length z.2.2.1.length v := by
    intro v hv
    rcases hshape with ⟨-, -, e1⟩ | ⟨-, k, as2, fs, e0, -, e1, -⟩
    · exact hst v (by rw [e1]; exact List.mem_append_left _ (List.mem_reverse.mpr hv))
    · rw [e0] at hv
      rcases List.mem_cons.mp hv with h | h
      · exact hst v (by rw [e1, h]; exact List.mem_append_right _ List.mem_cons_self)
      · exact hst v (by rw [e1]; exact List.mem_append_left _ (List.mem_reverse.mpr h))
  have hMet := ry_met (l := l) (D := D) (ad := ad) hGG tm ih hM' hex hR.1 hR.2.1 hR.2.2.1 has y2
  have hGI : GoodIn G (Jvm.Cond.code M_p.2.2.2.2.1 M_p.2.1 M_p.2.2.1 M_p.2.2.2.1 :: G) := fun w hw => by
    rcases List.mem_cons.mp hw with h | h
    · subst h; exact ⟨m2, good_of_word (hGG _ m2)⟩
    · exact ⟨h, good_of_word (hGG _ h)⟩
  have S : CallFix p m c M.2.1 M.2.2.1 s args G M.2.2.2.2.1.cls := ⟨hx, hb, hml, hown, hts⟩
  have hroomF : d + 1 ≤ R.frames ∧ 8 + (M_p.2.2.1 + 11) + d * 40 ≤ R.locals := ⟨hd, by omega⟩
  have hdesc : ∀ sig, parseMethodDescriptor M_p.2.2.2.2.1.desc = some sig → q.2.1 = sig.parameters.length := fun sig h => by
    rw [h] at c1
    exact (Option.some.inj c1).symm
  have hws : ∀ w ∈ (Jvm.Cond.code M_p.2.2.2.2.1 M_p.2.1 M_p.2.2.1 M_p.2.2.2.1 :: G), ∀ (a' : Array Value) (U : State), s.WarmedH U.vm → w.before a' U = true := pay_in hts hGI
  have hrest : 2 * (F0 m (ry_zpc z) ls ((ry_zst z).map (ry_iv r ad xa))).monitorRoom + ((t.map (ry_iv r ad xa)).map fun v => v.category).sum ≤ 8 := lv_room (by rw [ry_cats_sum]; exact y1)
  have hf : z.2.2.2.1 + M_p.2.2.2.2.2.2.1 ≤ R.cells ∧ z.2.2.2.2.1 + M_p.2.2.2.2.2.2.2 ≤ R.slots := ⟨Nat.le_trans y4 hmc, Nat.le_trans y5 hms⟩
  have hlsz : ls.size = M.2.2.1 := (ry_lvh hR).1
  have hpre := ry_pre_at hPX hF hA hH0 hR
  rcases hshape with ⟨ho, hlen, hstk⟩ | ⟨ho, k, as2, fs, hase, hlen, hstk, hkc⟩
  · -- static
    have hi : i = .invokestatic idx := by
      rcases ry_cidx_ok hci with ⟨h, -⟩ | ⟨-, h⟩ | ⟨h, -⟩
      · omega
      · exact h
      · omega
    subst hi
    have hstk2 : (F0 m (ry_zpc z) ls ((ry_zst z).map (ry_iv r ad xa))).stack = (as.map (ry_iv r ad xa)).reverse ++ t.map (ry_iv r ad xa) := by
      show (ry_zst z).map (ry_iv r ad xa) = _
      rw [hstk, List.map_append, List.map_reverse]
    have hlen2 : (as.map (ry_iv r ad xa)).length = q.2.1 := by rw [List.length_map]; exact hlen
    have hstat := hts _ (c4 (hop.trans ho))
    have hp : PreS s H (va_Pc (as.map (ry_iv r ad xa)) (ry_Pre NW AO PX D cl A xa z r ad)) (as.map (ry_iv r ad xa)) := ⟨ry_blind hPX, fun U hU hW => ⟨rfl, hpre U hU hW⟩⟩
    refine ⟨as, ?_⟩
    by_cases h3 : q.1 < 3
    · exact va_runS S hMet ⟨⟨rfl, rfl, hroomF.1, hroomF.2, hws, List.mem_cons_self, hts _ m2, hts _ m4, m5, hdesc, hts _ (c2 h3)⟩, hstat⟩ hp rfl hlen2 hlsz hstk2 hrest hdg hf
    · obtain ⟨host, hh⟩ := c3 (Nat.le_of_not_lt h3)
      exact va_runSN (host := host) S hMet ⟨⟨⟨rfl, rfl, hroomF.1, hroomF.2, hws, List.mem_cons_self⟩, hts _ m2, hts _ m4, m5, hdesc, va_Nw.use rfl (hnw _ hh)⟩, hstat, trivial⟩ hp rfl hlen2 hlsz hstk2 hrest hdg hf
  · -- with a receiver
    subst hase
    obtain ⟨hinm, F, N, hcl⟩ := c5 (by rw [hop]; exact ho)
    have hinst := hts _ hinm
    have hstk2 : (F0 m (ry_zpc z) ls ((ry_zst z).map (ry_iv r ad xa))).stack = (as2.map (ry_iv r ad xa)).reverse ++ .ref (ad k) :: t.map (ry_iv r ad xa) := by
      show (ry_zst z).map (ry_iv r ad xa) = _
      rw [hstk, List.map_append, List.map_reverse]
      rfl
    have hlen2 : (as2.map (ry_iv r ad xa)).length = q.2.1 := by rw [List.length_map]; exact hlen
    have hpc : ∀ U : State, U.heap = H → s.WarmedH U.vm → va_Pc ((Sum.inl (some k) :: as2).map (ry_iv r ad xa)) (ry_Pre NW AO PX D cl A xa z r ad) (Value.ref (ad k) :: as2.map (ry_iv r ad xa)).toArray U := fun U hU hW => ⟨rfl, hpre U hU hW⟩
    obtain ⟨ws, tys, hK, hP, hD, hS, hl, hc⟩ := id hR.2.2.2.1
    obtain ⟨-, e0, hw, vs, he0, -, -⟩ := hc k _ hkc
    subst he0
    have hrecv := va_recv hK hP hcl hw
    have hpV : PreV s H M_p.2.2.2.2.1.cls (ad k) (va_Pc ((Sum.inl (some k) :: as2).map (ry_iv r ad xa)) (ry_Pre NW AO PX D cl A xa z r ad)) (as2.map (ry_iv r ad xa)) := ⟨ry_blind hPX, hrecv, hpc⟩
    refine ⟨Sum.inl (some k) :: as2, ?_⟩
    rcases ry_cidx_ok hci with ⟨h0, hi⟩ | ⟨h0, -⟩ | ⟨h0, hi⟩
    · subst hi
      have hsel := hts _ (c6 (hop.trans h0))
      by_cases h3 : q.1 < 3
      · exact va_runV S hMet ⟨⟨rfl, rfl, hroomF.1, hroomF.2, hws, List.mem_cons_self, hts _ m2, hts _ m4, m5, hdesc, hts _ (c2 h3)⟩, hinst, hsel⟩ hpV rfl hlen2 hlsz hstk2 hrest hdg hf
      · obtain ⟨host, hh⟩ := c3 (Nat.le_of_not_lt h3)
        exact va_runVN (host := host) S hMet ⟨⟨⟨rfl, rfl, hroomF.1, hroomF.2, hws, List.mem_cons_self⟩, hts _ m2, hts _ m4, m5, hdesc, va_Nw.use rfl (hnw _ hh)⟩, hinst, hsel⟩ hpV rfl hlen2 hlsz hstk2 hrest hdg hf
    · exact absurd h0 ho
    · subst hi
      obtain ⟨hy1, hret⟩ := c7 (hop.trans h0)
      have hpS : PreS s H (va_Pc ((Sum.inl (some k) :: as2).map (ry_iv r ad xa)) (ry_Pre NW AO PX D cl A xa z r ad)) (.ref (ad k) :: as2.map (ry_iv r ad xa)) := ⟨ry_blind hPX, hpc⟩
      have hcode2 := hts _ m2
      rw [hret] at hcode2 hMet hws
      by_cases h3 : q.1 < 3
      · exact va_runI S hMet ⟨⟨rfl, rfl, hroomF.1, hroomF.2, hws, List.mem_cons_self, hcode2, hts _ m4, m5, hdesc, hts _ (c2 h3)⟩, hy1, hinst⟩ hpS rfl hlen2 hlsz hstk2 hrest hdg hf
      · obtain ⟨host, hh⟩ := c3 (Nat.le_of_not_lt h3)
        exact va_runIN (host := host) S hMet ⟨⟨⟨rfl, rfl, hroomF.1, hroomF.2, hws, List.mem_cons_self⟩, hcode2, hts _ m4, m5, hdesc, va_Nw.use rfl (hnw _ hh)⟩, hy1, hinst⟩ hpS rfl hlen2 hlsz hstk2 hrest hdg hf
set_option maxHeartbeats 2000000 in
theorem ry_goal (hGG : ∀ w ∈ G, goodWord w = true) (hPX : ry_PXOK NW A PX) (t1 : ry_frOK G NW cl nm T) (t2 : ry_crOK G cl nm T) (t3 : ry_arOK G AO cl nm T) (t4 : ry_kcOK G nm T) (t5 : ry_acOK G) (tm : ry_mlOK G nm T) (tc : ry_cjOK G NW cl nm T) (hxh : ry_xhOK xh G NW AO cl nm A xa PX l D) : ∀ (f d : Nat) (lw : Bool), ry_Goal f d lw xh T G NW AO cl nm A xa PX l D := by
  intro f
  induction f with
  | zero =>
    intro d lw M z Es hex
    exact absurd (show (none : Option (List ry_End)) = some Es from hex) (fun q => by cases q)
  | succ f ih =>
    intro d lw M z Es hex hn p e R s m args below meth c Q H0 H locs ls r ad hF hA hH0 hmc hms hd hdl hscr hR hret
    rw [ry_exec] at hex
    split at hex
    · cases hex
    · rename_i i len hdg
      split at hex
      · rename_i E hE
        cases hex
        obtain ⟨a1, a2, a3, a4, a5, a6, a7⟩ := ry_retk_ok (r := r) (ad := ad) (xa := xa) hR.1 hE hdg
        obtain ⟨hW0, hS⟩ := hR.2.2.2.1.to0
        obtain ⟨eI, eF, eh, ev⟩ := E
        dsimp only at a1 a2 a3 a4 a7
        subst a1; subst a2; subst a3
        rw [a4]
        refine hret _ List.mem_cons_self r ad H locs ls (ry_zpc z) z.2.2.2.1 z.2.2.2.2.1 (Nat.le_refl _) (Nat.le_refl _) ry_same.rf ry_sameA.rf ⟨hR.1, hR.2.1, hR.2.2.1, hW0, fun v hv => ry_stsc hR v ?_⟩ hS a5 a6 a7
        rw [a4]
        have hv2 : ev = some v := hv
        rw [hv2]
        exact List.mem_cons_self
      · split at hex
        · rename_i zs hzs
          have K : ∀ z_p ∈ zs, ry_G p l e R s m args below meth c Q D cl A xa M.2.2.1 H0 z.1.length z.2.2.1.length r ad z_p := by
            intro z_p hz' r_p ad' H' locs' ls' hN hM hr ha hR'
            obtain ⟨xs, hx1, hx2⟩ := ry_bind_ok hex z_p hz'
            exact ih d lw M z_p xs hx1 hn hF hA hH0 hmc hms hd hdl (hscr.to hR.1.2.1 hr) hR' fun E hE r2 ad2 H2 locs2 ls2 pc2 k2 n2 hN2 hM2 hr2 ha2 => hret E (hx2 E hE) r2 ad2 H2 locs2 ls2 pc2 k2 n2 (Nat.le_trans hN hN2) (Nat.le_trans hM hM2) (hr.tr hr2 hN) (ha.tr ha2 hM)
          rcases ry_or_ok hzs with h | h
          · exact hxh d M i len z zs h hn hF hA hH0 hmc hms hd hdl hdg hR K
          · exact ry_step_ok hF hn t1 t2 t3 t4 t5 hA hmc hms hscr hdg hR h K
        · split at hex
          · cases hex
          · rename_i d' hno
            split at hex
            · cases hex
            · rename_i q M_p as t hprep
              split at hex
              · cases hex
              · rename_i Es' hex'
                obtain ⟨as2, hrun⟩ := ry_run (l := l) (D := D) hGG hPX tm tc (ih d' false) hn hF hA hH0 hmc hms hd hdl hR hdg hprep hex'
                obtain ⟨hW0, hS⟩ := hR.2.2.2.1.to0
                refine ry_call hrun hS (fun _ _ _ h => h.2) fun v st tt H1 locs1 ht hst hvm hpost hS1 => ?_
                obtain ⟨⟨E, hE, r_p, ad', hN, hM, hsr, hsa, hRE, hov⟩, -⟩ := hpost
                cases hov
                obtain ⟨xs, hx1, hx2⟩ := ry_bind_ok hex E hE
                obtain ⟨b1, b2, b3, b4, b5⟩ := hRE
                rw [ht] at b4
                have b4 := b4.moved hvm.symm
                have hstz := ry_stsc hR
                have htsc : ∀ y ∈ t, ry_sc z.1.length z.2.2.1.length y := by
                  obtain ⟨op, idx, -, -, -, -, -, -, -, hsh⟩ := ry_prep_ok hprep
                  intro y hy
                  rcases hsh with ⟨-, -, e1⟩ | ⟨-, k, as3, fs, -, -, e1, -⟩
                  · exact hstz y (by rw [e1]; exact List.mem_append_right _ hy)
                  · exact hstz y (by rw [e1]; exact List.mem_append_right _ (List.mem_cons_of_mem _ hy))
                have hR' : ry_R D cl A s xa M.2.2.1 H0 (ry_back M_p z t E) r_p ad' H1 locs1 ls := by
                  refine ⟨b1, b2, b3, b4.to hS1, ?_, fun y hy => ry_sc.mono (ry_lvsc hR y hy) hN hM, fun y hy => ?_⟩
                  · have h := ry_lvh hR
                    show lv_has ls M.2.2.1 (ry_lvs r_p ad' xa (ry_zlv z))
                    rw [ry_lvs_ext (ry_lvsc hR) hsr hsa]
                    exact h
                  · rcases List.mem_append.mp hy with h | h
                    · refine b5 y ?_
                      cases hv : E.2.2.2 with
                      | none => rw [hv] at h; exact absurd h List.not_mem_nil
                      | some w =>
                        rw [hv] at h
                        rcases List.mem_cons.mp h with h | h
                        · rw [h]
                        · exact absurd h List.not_mem_nil
                    · exact ry_sc.mono (htsc y h) hN hM
                have hgo := ih (d' + 1) lw M (ry_back M_p z t E) xs hx1 hn hF hA hH0 hmc hms hd hdl (hscr.to hR.1.2.1 hsr) hR' fun E2 hE2 r2 ad2 H2 locs2 ls2 pc2 k2 n2 hN2 hM2 hr2 ha2 => hret E2 (hx2 E2 hE2) r2 ad2 H2 locs2 ls2 pc2 k2 n2 (Nat.le_trans hN hN2) (Nat.le_trans hM hM2) (hsr.tr hr2 hN) (hsa.tr ha2 hM)
                have hstk : (ry_zst (ry_back M_p z t E)).map (ry_iv r_p ad' xa) = (E.2.2.2.map (ry_iv r_p ad' xa)).toList ++ t.map (ry_iv r ad xa) := by
                  show (E.2.2.2.toList ++ t).map (ry_iv r_p ad' xa) = _
                  rw [List.map_append, ry_toList_map, ry_st_ext htsc hsr hsa]
                rw [hstk] at hgo
                exact hgo
end RYG
