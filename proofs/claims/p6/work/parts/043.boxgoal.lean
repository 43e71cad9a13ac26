/-! THE BOX MACHINE: the soundness of runs -/
/-- what goes with a start into every call -/
def rx_PXOK (NW : List Jvm.Cond) (A : Nat → Prop) (PX : State → Prop) : Prop :=
  (∀ w ∈ NW, w.onTables = true ∧ ∀ (s U : State), s.WarmedH U.vm → va_Nw w s → va_Nw w U) ∧ (∀ (U : State) (g : JFrame) (mk : MethodId) (a : Array Value), PX U → PX (U.calling g mk a)) ∧
  ∀ u U : State, PX u → u.WarmedH U.vm → (∀ a : Nat, a < u.heap.size → ¬ A a → U.heap[a]? = u.heap[a]?) → PX U
def rx_xhOK (xh : rx_Xh) (G NW : List Jvm.Cond) (AO : List String) (cl : List vw_C) (nm : Nat → String) (A : Nat → Prop) (xa : Nat → Nat) (PX : State → Prop) (l : Launch) (D : bx_D) (ad : Nat → Nat) (dm : Nat) : Prop :=
  ∀ (d : Nat) (M : rx_Mt) (i : Instr) (len : Nat) (z : rx_Z) (zs : List rx_Z), d ≤ dm → xh d M i len z = some zs → nm M.1 = M.2.2.2.2.1.cls →
  ∀ {p : Program} {e : Env} {R : Room} {s : State} {m : MethodId} {args : Array Value} {below : List Frame} {meth : Method} {c : Code} {Q : State → Prop} {H0 H : Heap} {locs : List Loc} {ls : Array Slot} {r : Nat → Int},
    rx_Fr G NW AO PX p s m args meth c M → (∀ q, H0.size ≤ q → A q) → H0 = s.heap → M.2.2.2.2.2.2.1 ≤ R.cells → M.2.2.2.2.2.2.2 ≤ R.slots → d ≤ R.frames → d * 40 ≤ R.locals → decode M.2.1 (rx_zpc z) = .ok (i, len) → rx_R D cl A s xa M.2.2.1 H0 z r ad H locs ls →
    (∀ z_p ∈ zs, rx_G p l e R s m args below meth c Q D cl A xa M.2.2.1 H0 z.1.length z.2.2.1.length r ad z_p) →
    W p l e R s m args below meth c H locs z.2.2.2.1 z.2.2.2.2.1 Q (F0 m (rx_zpc z) ls ((rx_zst z).map (rx_iv r ad xa)))
theorem rx_rcv_ok {B : bx_B} {ht : List rx_C} {ci : Nat} {k : rx_E} {t t2 : List rx_V} (h : rx_rcv B ht ci t = some (k, t2)) : t = .inr (3, k) :: t2 ∧ ∃ (d : Option Nat) (tcs : List Nat), bx_dm ht k.1 = some d ∧ B.1.1 d k.2 = some (.inl (ci, tcs)) := by
  unfold rx_rcv at h
  split at h
  · rename_i e t0 hpr
    split at h
    · rename_i d hd
      split at h
      · rename_i ci' tcs hht
        obtain ⟨h1, h2⟩ := rx_ifn h
        cases h2
        subst h1
        exact ⟨bx_pp_ok hpr, d, tcs, hd, hht⟩
      · cases h
    · cases h
  · cases h
theorem rx_prep_ok {B : bx_B} {T : rx_Tb} {M M_p : rx_Mt} {i : Instr} {len : Nat} {z : rx_Z} {q : rx_J} {as t : List rx_V} (h : rx_prep B T M i len z = some (q, M_p, as, t)) :
    ∃ op idx, rx_cidx i = some (op, idx) ∧ len = 3 ∧ T.2.2.2.2.1 M.1 idx = some q ∧ T.2.2.2.2.2 q.2.2.2 = some M_p ∧ q.1 % 3 = op ∧ q.1 < 6 ∧ rx_may M M_p z as t = true ∧
      ((op = 1 ∧ as.length = q.2.1 ∧ rx_zst z = as.reverse ++ t) ∨ (op ≠ 1 ∧ ∃ (k : rx_E) (as2 : List rx_V) (d : Option Nat) (tcs : List Nat), as = .inr (3, k) :: as2 ∧ as2.length = q.2.1 ∧ rx_zst z = as2.reverse ++ .inr (3, k) :: t ∧ bx_dm z.2.2.1 k.1 = some d ∧ B.1.1 d k.2 = some (.inl (q.2.2.1, tcs)))) := by
  unfold rx_prep at h
  split at h
  · cases h
  · rename_i op idx hc
    split at h
    · cases h
    · rename_i q0 hq
      split at h
      · rename_i M0 as0 t0 hM hta
        obtain ⟨h1, h2⟩ := rx_if_ok h
        rw [Bool.and_eq_true, Bool.and_eq_true, beq_iff_eq, beq_iff_eq, decide_eq_true_eq] at h1
        obtain ⟨hl, ho, h6⟩ := h1
        obtain ⟨g1, g2⟩ := rx_take_ok hta
        rw [List.length_nil, Nat.add_zero] at g1
        rw [List.reverse_nil, List.nil_append] at g2
        split at h2
        · rename_i hop
          obtain ⟨h3, h4⟩ := rx_if_ok h2
          cases h4
          exact ⟨op, idx, hc, hl, hq, hM, ho, h6, h3, Or.inl ⟨hop, g1, g2⟩⟩
        · rename_i hop
          split at h2
          · rename_i k t2 hrc
            obtain ⟨h3, h4⟩ := rx_if_ok h2
            cases h4
            obtain ⟨k1, d, tcs, k2, k3⟩ := rx_rcv_ok hrc
            exact ⟨op, idx, hc, hl, hq, hM, ho, h6, h3, Or.inr ⟨hop, k, as0, d, tcs, rfl, g1, by rw [g2, k1], k2, k3⟩⟩
          · cases h2
      · cases h
theorem rx_cidx_ok {i : Instr} {op idx : Nat} (h : rx_cidx i = some (op, idx)) : (op = 0 ∧ i = .invokevirtual idx) ∨ (op = 1 ∧ i = .invokestatic idx) ∨ (op = 2 ∧ i = .invokespecial idx) := by
  unfold rx_cidx at h
  split at h
  · cases h; exact Or.inl ⟨rfl, rfl⟩
  · cases h; exact Or.inr (Or.inl ⟨rfl, rfl⟩)
  · cases h; exact Or.inr (Or.inr ⟨rfl, rfl⟩)
  · cases h
section RXG
variable {B : bx_B} {G NW : List Jvm.Cond} {AO : List String} {cl : List vw_C} {T : rx_Tb} {nm : Nat → String} {xh : rx_Xh}
variable {p : Program} {l : Launch} {e : Env} {R : Room} {s : State} {m : MethodId} {args : Array Value} {below : List Frame} {meth : Method} {c : Code} {Q : State → Prop}
variable {D : bx_D} {A : Nat → Prop} {xa : Nat → Nat} {H0 H : Heap} {locs : List Loc} {ls : Array Slot} {r : Nat → Int} {ad : Nat → Nat} {PX : State → Prop}
theorem rx_blind {z : rx_Z} {as : List Value} (hPX : rx_PXOK NW A PX) : FrameBlind (va_Pc as (rx_Pre NW AO PX D cl A xa z r ad)) := fun a U g mk h => by
  obtain ⟨h0, h1, h2, h3, h4, h5⟩ := h
  exact ⟨h0, fun w hw => va_Nw.same (u := U) (U := U.calling g mk a) (hPX.1 w hw).1 rfl (h1 w hw), fun C hC => va_AO.moved (Vm.Alike.refl U.vm) (h2 C hC), hPX.2.1 U g mk a h3, h4.moved (U := U.calling g mk a) (Vm.Alike.refl U.vm), h5⟩
theorem rx_pre_at {z : rx_Z} {M : rx_Mt} (hPX : rx_PXOK NW A PX) (hF : rx_Fr G NW AO PX p s m args meth c M) (hA : ∀ q, H0.size ≤ q → A q) (hH0 : H0 = s.heap) (hR : rx_R D cl A s xa M.2.2.1 H0 z r ad H locs ls) (U : State) (hU : U.heap = H) (hW : s.WarmedH U.vm) : rx_Pre NW AO PX D cl A xa z r ad U := by
  obtain ⟨hW0, hS⟩ := hR.2.2.2.1.to0
  refine ⟨fun w hw => (hPX.1 w hw).2 s U hW (hF.2.2.2.2.2.2.2.1 w hw), fun C hC => va_AO.moved hW.alike (hF.2.2.2.2.2.2.2.2.1 C hC), hPX.2.2 s U hF.2.2.2.2.2.2.2.2.2.1 hW (fun a h1 h2 => ?_), ?_, fun q hq => hA q ?_⟩
  · rw [hU, ← hH0]
    exact hS.2.1 a (by rw [hH0]; exact h1) h2
  · rw [hU]
    exact hW0.moved hW.alike
  · rw [hU] at hq
    exact Nat.le_trans hS.1 hq
/-- a call by a contract: what the callee is given holds at the call -/
theorem bx_call {z : rx_Z} {M M_p : rx_Mt} {i : Instr} {len d : Nat} {q : rx_J} {as t : List rx_V} {Pb : State → Prop} {Qc : Array Value → State → Outcome → State → Prop} {free : Addr → Prop} (hGG : ∀ w ∈ G, goodWord w = true) (tm : rx_mlOK G nm T) (tc : rx_cjOK G NW cl nm T) (hV : bx_VOK D.2.1 B.1) (hn : nm M.1 = M.2.2.2.2.1.cls)
    (hF : rx_Fr G NW AO PX p s m args meth c M) (hmc : M.2.2.2.2.2.2.1 ≤ R.cells) (hms : M.2.2.2.2.2.2.2 ≤ R.slots) (hd : d + 1 ≤ R.frames) (hdl : (d + 1) * 40 ≤ R.locals) (hR : rx_R D cl A s xa M.2.2.1 H0 z r ad H locs ls) (hdg : decode M.2.1 (rx_zpc z) = .ok (i, len))
    (hprep : rx_prep B T M i len z = some (q, M_p, as, t))
    (hMet : Met l M_p.2.2.2.2.1 (Jvm.Cond.code M_p.2.2.2.2.1 M_p.2.1 M_p.2.2.1 M_p.2.2.2.1 :: G) { frames := d, cells := M_p.2.2.2.2.2.2.1, slots := M_p.2.2.2.2.2.2.2, locals := d * 40 } (va_Pc (as.map (rx_iv r ad xa)) Pb) Qc M_p.2.2.2.2.2.2.1 M_p.2.2.2.2.2.2.2 free)
    (hblind : FrameBlind (va_Pc (as.map (rx_iv r ad xa)) Pb)) (hpre : ∀ U : State, U.heap = H → s.WarmedH U.vm → Pb U) :
    va_Run p l e R s m args below meth c H locs z.2.2.2.1 z.2.2.2.2.1 M_p.2.2.2.2.2.2.1 M_p.2.2.2.2.2.2.2 (F0 m (rx_zpc z) ls ((rx_zst z).map (rx_iv r ad xa))) (t.map (rx_iv r ad xa)) (Qc (as.map (rx_iv r ad xa)).toArray) free := by
  obtain ⟨op, idx, hci, hlen, hq, hM', hop, h6, hmay, hshape⟩ := rx_prep_ok hprep
  subst hlen
  unfold rx_may at hmay
  simp only [Bool.and_eq_true, decide_eq_true_eq] at hmay
  obtain ⟨y1, y2, y3, y4, y5⟩ := hmay
  obtain ⟨m1, m2, m3, m4, m5, m6⟩ := tm _ _ hM'
  obtain ⟨c1, c2, c3, c4, c5, c6, c7⟩ := tc _ _ _ _ hq hM'
  rw [hn] at c2 c3
  obtain ⟨hx, hb, hr, hml, hown, hlk, hts, hnw, hao, hpx, hini⟩ := id hF
  have hGI : GoodIn G (Jvm.Cond.code M_p.2.2.2.2.1 M_p.2.1 M_p.2.2.1 M_p.2.2.2.1 :: G) := fun w hw => by
    rcases List.mem_cons.mp hw with h | h
    · subst h; exact ⟨m2, good_of_word (hGG _ m2)⟩
    · exact ⟨h, good_of_word (hGG _ h)⟩
  have S : CallFix p m c M.2.1 M.2.2.1 s args G M.2.2.2.2.1.cls := ⟨hx, hb, hml, hown, hts⟩
  have hroomF : d + 1 ≤ R.frames ∧ 8 + (M_p.2.2.1 + 11) + d * 40 ≤ R.locals := ⟨hd, by omega⟩
  have hdesc : ∀ sig, parseMethodDescriptor M_p.2.2.2.2.1.desc = some sig → q.2.1 = sig.parameters.length := fun sig h => by
    rw [h] at c1
    exact (Option.some.inj c1).symm
  have hws : ∀ w ∈ (Jvm.Cond.code M_p.2.2.2.2.1 M_p.2.1 M_p.2.2.1 M_p.2.2.2.1 :: G), ∀ (a' : Array Value) (U : State), s.WarmedH U.vm → w.before a' U = true := pay_in hts hGI
  have hrest : 2 * (F0 m (rx_zpc z) ls ((rx_zst z).map (rx_iv r ad xa))).monitorRoom + ((t.map (rx_iv r ad xa)).map fun v => v.category).sum ≤ 8 := lv_room (by rw [rx_cats_sum]; exact y1)
  have hf : z.2.2.2.1 + M_p.2.2.2.2.2.2.1 ≤ R.cells ∧ z.2.2.2.2.1 + M_p.2.2.2.2.2.2.2 ≤ R.slots := ⟨Nat.le_trans y4 hmc, Nat.le_trans y5 hms⟩
  have hlsz : ls.size = M.2.2.1 := (rx_lvh hR).1
  rcases hshape with ⟨ho, hlen, hstk⟩ | ⟨ho, k, as2, dd, tcs, hase, hlen, hstk, hkd, hkc⟩
  · -- static
    have hi : i = .invokestatic idx := by
      rcases rx_cidx_ok hci with ⟨h, -⟩ | ⟨-, h⟩ | ⟨h, -⟩
      · omega
      · exact h
      · omega
    subst hi
    have hstk2 : (F0 m (rx_zpc z) ls ((rx_zst z).map (rx_iv r ad xa))).stack = (as.map (rx_iv r ad xa)).reverse ++ t.map (rx_iv r ad xa) := by
      show (rx_zst z).map (rx_iv r ad xa) = _
      rw [hstk, List.map_append, List.map_reverse]
    have hlen2 : (as.map (rx_iv r ad xa)).length = q.2.1 := by rw [List.length_map]; exact hlen
    have hstat := hts _ (c4 (hop.trans ho))
    have hp : PreS s H (va_Pc (as.map (rx_iv r ad xa)) Pb) (as.map (rx_iv r ad xa)) := ⟨hblind, fun U hU hW => ⟨rfl, hpre U hU hW⟩⟩
    by_cases h3 : q.1 < 3
    · exact va_runS S hMet ⟨⟨rfl, rfl, hroomF.1, hroomF.2, hws, List.mem_cons_self, hts _ m2, hts _ m4, m5, hdesc, hts _ (c2 h3)⟩, hstat⟩ hp rfl hlen2 hlsz hstk2 hrest hdg hf
    · obtain ⟨host, hh⟩ := c3 (Nat.le_of_not_lt h3)
      exact va_runSN (host := host) S hMet ⟨⟨⟨rfl, rfl, hroomF.1, hroomF.2, hws, List.mem_cons_self⟩, hts _ m2, hts _ m4, m5, hdesc, va_Nw.use rfl (hnw _ hh)⟩, hstat, trivial⟩ hp rfl hlen2 hlsz hstk2 hrest hdg hf
  · -- with a receiver
    subst hase
    obtain ⟨hinm, F, N, hcl⟩ := c5 (by rw [hop]; exact ho)
    have hinst := hts _ hinm
    have hstk2 : (F0 m (rx_zpc z) ls ((rx_zst z).map (rx_iv r ad xa))).stack = (as2.map (rx_iv r ad xa)).reverse ++ .ref (ad (rx_ev r k).toNat) :: t.map (rx_iv r ad xa) := by
      show (rx_zst z).map (rx_iv r ad xa) = _
      rw [hstk, List.map_append, List.map_reverse]
      rfl
    have hlen2 : (as2.map (rx_iv r ad xa)).length = q.2.1 := by rw [List.length_map]; exact hlen
    have hpc : ∀ U : State, U.heap = H → s.WarmedH U.vm → va_Pc ((Sum.inr (3, k) :: as2).map (rx_iv r ad xa)) Pb (Value.ref (ad (rx_ev r k).toNat) :: as2.map (rx_iv r ad xa)).toArray U := fun U hU hW => ⟨rfl, hpre U hU hW⟩
    obtain ⟨SS, ⟨ws, tys, hInv, hK, hP, hD, hl, hcell⟩, hS, hsm, hkn⟩ := id hR.2.2.2.1
    have hin := bx_dm_ok hR.1 hkn hkd
    obtain ⟨p1, p2, p3⟩ := hV.1 dd k.2 _ hkc _ hin
    obtain ⟨e0, hw, hce⟩ := hcell _ p2
    rw [p3] at hce
    obtain ⟨vs, he0, -, -⟩ := hce
    subst he0
    have hrecv := va_recv hK hP hcl hw
    have hpV : PreV s H M_p.2.2.2.2.1.cls (ad (rx_ev r k).toNat) (va_Pc ((Sum.inr (3, k) :: as2).map (rx_iv r ad xa)) Pb) (as2.map (rx_iv r ad xa)) := ⟨hblind, hrecv, hpc⟩
    rcases rx_cidx_ok hci with ⟨h0, hi⟩ | ⟨h0, -⟩ | ⟨h0, hi⟩
    · subst hi
      have hsel := hts _ (c6 (hop.trans h0))
      by_cases h3 : q.1 < 3
      · exact va_runV S hMet ⟨⟨rfl, rfl, hroomF.1, hroomF.2, hws, List.mem_cons_self, hts _ m2, hts _ m4, m5, hdesc, hts _ (c2 h3)⟩, hinst, hsel⟩ hpV rfl hlen2 hlsz hstk2 hrest hdg hf
      · obtain ⟨host, hh⟩ := c3 (Nat.le_of_not_lt h3)
        exact va_runVN (host := host) S hMet ⟨⟨⟨rfl, rfl, hroomF.1, hroomF.2, hws, List.mem_cons_self⟩, hts _ m2, hts _ m4, m5, hdesc, va_Nw.use rfl (hnw _ hh)⟩, hinst, hsel⟩ hpV rfl hlen2 hlsz hstk2 hrest hdg hf
    · exact absurd h0 ho
    · subst hi
      obtain ⟨hy1, hret⟩ := c7 (hop.trans h0)
      have hpS : PreS s H (va_Pc ((Sum.inr (3, k) :: as2).map (rx_iv r ad xa)) Pb) (.ref (ad (rx_ev r k).toNat) :: as2.map (rx_iv r ad xa)) := ⟨hblind, hpc⟩
      have hcode2 := hts _ m2
      rw [hret] at hcode2 hMet hws
      by_cases h3 : q.1 < 3
      · exact va_runI S hMet ⟨⟨rfl, rfl, hroomF.1, hroomF.2, hws, List.mem_cons_self, hcode2, hts _ m4, m5, hdesc, hts _ (c2 h3)⟩, hy1, hinst⟩ hpS rfl hlen2 hlsz hstk2 hrest hdg hf
      · obtain ⟨host, hh⟩ := c3 (Nat.le_of_not_lt h3)
        exact va_runIN (host := host) S hMet ⟨⟨⟨rfl, rfl, hroomF.1, hroomF.2, hws, List.mem_cons_self⟩, hcode2, hts _ m4, m5, hdesc, va_Nw.use rfl (hnw _ hh)⟩, hy1, hinst⟩ hpS rfl hlen2 hlsz hstk2 hrest hdg hf
theorem rx_prep_sc {M M_p : rx_Mt} {i : Instr} {len : Nat} {z : rx_Z} {q : rx_J} {as t : List rx_V} (hR : rx_R D cl A s xa M.2.2.1 H0 z r ad H locs ls) (hprep : rx_prep B T M i len z = some (q, M_p, as, t)) : (∀ v ∈ as, rx_sc z.1.length z.2.2.1.length v) ∧ (∀ v ∈ t, rx_sc z.1.length z.2.2.1.length v) ∧ rx_cats as ≤ M_p.2.2.1 ∧ len = 3 ∧ T.2.2.2.2.2 q.2.2.2 = some M_p := by
  obtain ⟨op, idx, hci, hlen, hq, hM', hop, h6, hmay, hshape⟩ := rx_prep_ok hprep
  have hst := rx_stsc hR
  unfold rx_may at hmay
  simp only [Bool.and_eq_true, decide_eq_true_eq] at hmay
  refine ⟨fun v hv => ?_, fun y hy => ?_, hmay.2.1, hlen, hM'⟩
  · rcases hshape with ⟨-, -, e1⟩ | ⟨-, k, as2, dd, tcs, e0, -, e1, -, -⟩
    · exact hst v (by rw [e1]; exact List.mem_append_left _ (List.mem_reverse.mpr hv))
    · rw [e0] at hv
      rcases List.mem_cons.mp hv with h | h
      · exact hst v (by rw [e1, h]; exact List.mem_append_right _ List.mem_cons_self)
      · exact hst v (by rw [e1]; exact List.mem_append_left _ (List.mem_reverse.mpr h))
  · rcases hshape with ⟨-, -, e1⟩ | ⟨-, k, as3, dd, tcs, -, -, e1, -, -⟩
    · exact hst y (by rw [e1]; exact List.mem_append_right _ hy)
    · exact hst y (by rw [e1]; exact List.mem_append_right _ (List.mem_cons_of_mem _ hy))
set_option maxHeartbeats 2000000 in
theorem rx_goal {dm : Nat} (hGG : ∀ w ∈ G, goodWord w = true) (hPX : rx_PXOK NW A PX) (t1 : rx_frOK G NW cl nm T) (t4 : rx_kcOK G nm T) (tm : rx_mlOK G nm T) (tc : rx_cjOK G NW cl nm T) (hV : bx_VOK D.2.1 B.1) (hnp : B.2.1 = D.2.1.2.1) (hdm : B.2.2.1 = D.2.1.2.2.2) (hmd : B.2.2.2 = D.2.2.2) (hxh : rx_xhOK xh G NW AO cl nm A xa PX l D ad dm) : ∀ (f d : Nat) (_ : d ≤ dm) (cut : rx_Z → Bool), rx_Goal f d cut B xh T G NW AO cl nm A xa PX l D ad := by
  intro f
  induction f with
  | zero =>
    intro d _ cut M z Es hex
    exact absurd (show (none : Option (List rx_End)) = some Es from hex) (fun q => by cases q)
  | succ f ih =>
    intro d hdm2 cut M z Es hex hn p e R s m args below meth c Q H0 H locs ls r N0 r0 hF hA hH0 hmc hms hd hdl hN0 hr0 hcut hR hret
    rw [rx_exec] at hex
    split at hex
    · cases hex
    · rename_i i len hdg
      split at hex
      · rename_i E hE
        cases hex
        obtain ⟨a1, a2, a3, a4, a5, a6, a7⟩ := rx_retk_ok (r := r) (ad := ad) (xa := xa) hR.1 hE hdg
        obtain ⟨hW0, hS⟩ := hR.2.2.2.1.to0
        obtain ⟨eI, eF, eh, ev⟩ := E
        dsimp only at a1 a2 a3 a4 a7
        subst a1; subst a2; subst a3
        rw [a4]
        refine hret _ List.mem_cons_self r H locs ls (rx_zpc z) z.2.2.2.1 z.2.2.2.2.1 (Nat.le_refl _) rx_same.rf ⟨hR.1, hR.2.1, hR.2.2.1, hW0, fun v hv => rx_stsc hR v ?_⟩ hS a5 a6 a7
        rw [a4]
        have hv2 : ev = some v := hv
        rw [hv2]
        exact List.mem_cons_self
      · split at hex
        · rename_i zs hzs
          have K : ∀ z_p ∈ zs, rx_G p l e R s m args below meth c Q D cl A xa M.2.2.1 H0 z.1.length z.2.2.1.length r ad z_p := by
            intro z_p hz' r_p ad' H' locs' ls' hN _ hr ha hR'
            have ha2 : ad' = ad := ha
            subst ha2
            obtain ⟨xs, hx1, hx2⟩ := rx_bind_ok hex z_p hz'
            split at hx1
            · rename_i hc
              exact hcut z_p hc r_p H' locs' ls' (Nat.le_trans hN0 hN) (hr0.tr hr hN0) hR'
            · exact ih d hdm2 cut M z_p xs hx1 hn hF hA hH0 hmc hms hd hdl (Nat.le_trans hN0 hN) (hr0.tr hr hN0) hcut hR' fun E hE r2 H2 locs2 ls2 pc2 k2 n2 hN2 hr2 => hret E (hx2 E hE) r2 H2 locs2 ls2 pc2 k2 n2 (Nat.le_trans hN hN2) (hr.tr hr2 hN)
          rcases rx_or_ok hzs with h | h
          · exact hxh d M i len z zs hdm2 h hn hF hA hH0 hmc hms hd hdl hdg hR K
          · exact rx_step_ok hF hn t1 t4 hV hnp hdm hmd hdg hR h K
        · split at hex
          · cases hex
          · rename_i d' hno
            split at hex
            · cases hex
            · rename_i q M_p as t hprep
              split at hex
              · cases hex
              · rename_i Es' hex'
                obtain ⟨has, htsc, hcats, hlen3, hM'⟩ := rx_prep_sc hR hprep
                subst hlen3
                have hMet := rx_met (l := l) (D := D) (ad := ad) hGG tm (ih d' (by omega) (fun _ => false)) hM' hex' hR.1 hR.2.1 hR.2.2.1 has hcats
                have hrun := bx_call (l := l) (D := D) (below := below) (e := e) hGG tm tc hV hn hF hmc hms hd hdl hR hdg hprep hMet (rx_blind hPX) (rx_pre_at hPX hF hA hH0 hR)
                obtain ⟨hW0, hS⟩ := hR.2.2.2.1.to0
                refine rx_call hrun hS (fun _ _ _ h => h.2) fun v st tt H1 locs1 ht hst hvm hpost hS1 => ?_
                obtain ⟨⟨E, hE, r_p, hN, hsr, hRE, hov⟩, -⟩ := hpost
                cases hov
                obtain ⟨xs, hx1, hx2⟩ := rx_bind_ok hex E hE
                obtain ⟨b1, b2, b3, b4, b5⟩ := hRE
                rw [ht] at b4
                have b4 := b4.moved hvm.symm
                have hR' : rx_R D cl A s xa M.2.2.1 H0 (rx_back M_p z t E) r_p ad H1 locs1 ls := by
                  refine ⟨b1, b2, b3, b4.to hS1, ?_, fun y hy => rx_sc.any (rx_sc.mono (M_p := 0) (rx_lvsc hR y hy) hN trivial), fun y hy => ?_⟩
                  · have h := rx_lvh hR
                    show lv_has ls M.2.2.1 (rx_lvs r_p ad xa (rx_zlv z))
                    rw [rx_lvs_ext (rx_lvsc hR) hsr rx_sameA.rf]
                    exact h
                  · rcases List.mem_append.mp hy with h | h
                    · refine b5 y ?_
                      cases hv : E.2.2.2 with
                      | none => rw [hv] at h; exact absurd h List.not_mem_nil
                      | some w =>
                        rw [hv] at h
                        rcases List.mem_cons.mp h with h | h
                        · rw [h]
                        · exact absurd h List.not_mem_nil
                    · exact rx_sc.any (rx_sc.mono (M_p := 0) (htsc y h) hN trivial)
                have hgo := ih (d' + 1) hdm2 cut M (rx_back M_p z t E) xs hx1 hn hF hA hH0 hmc hms hd hdl (Nat.le_trans hN0 hN) (hr0.tr hsr hN0) hcut hR' fun E2 hE2 r2 H2 locs2 ls2 pc2 k2 n2 hN2 hr2 => hret E2 (hx2 E2 hE2) r2 H2 locs2 ls2 pc2 k2 n2 (Nat.le_trans hN hN2) (hsr.tr hr2 hN)
                have hstk : (rx_zst (rx_back M_p z t E)).map (rx_iv r_p ad xa) = (E.2.2.2.map (rx_iv r_p ad xa)).toList ++ t.map (rx_iv r ad xa) := by
                  show (E.2.2.2.toList ++ t).map (rx_iv r_p ad xa) = _
                  rw [List.map_append, rx_toList_map, rx_st_ext htsc hsr rx_sameA.rf]
                rw [hstk] at hgo
                exact hgo
end RXG
