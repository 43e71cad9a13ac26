/-! THE BOX MACHINE: what runs lead to -/
section RXV
variable {B : bx_B} {G NW : List Jvm.Cond} {AO : List String} {cl : List vw_C} {T : rx_Tb} {nm : Nat → String} {xh : rx_Xh}
/-- what a method is given -/
def rx_Pre (NW : List Jvm.Cond) (AO : List String) (PX : State → Prop) (D : bx_D) (cl : List vw_C) (A : Nat → Prop) (xa : Nat → Nat) (z : rx_Z) (r : Nat → Int) (ad : Nat → Nat) (U : State) : Prop :=
  (∀ w ∈ NW, va_Nw w U) ∧ (∀ C ∈ AO, va_AO C U) ∧ PX U ∧ rx_W0 D cl A U xa z.1.length z.2.2.1 r ad U.heap ∧ ∀ q, U.heap.size ≤ q → A q
/-- what a method answers -/
def rx_Post (D : bx_D) (cl : List vw_C) (A : Nat → Prop) (xa : Nat → Nat) (N : Nat) (r : Nat → Int) (ad : Nat → Nat) (Es : List rx_End) : Array Value → State → Outcome → State → Prop := fun _ st oc t =>
  (∃ E ∈ Es, ∃ r_p : Nat → Int, N ≤ E.1.length ∧ rx_same N r r_p ∧ rx_RE D cl A t xa E r_p ad t.heap ∧ oc = .returned (E.2.2.2.map (rx_iv r_p ad xa))) ∧ va_F A st t
/-- where a run may be closed -/
def rx_Cut (p : Program) (l : Launch) (e : Env) (R : Room) (s : State) (m : MethodId) (args : Array Value) (below : List Frame) (meth : Method) (c : Code) (Q : State → Prop) (D : bx_D) (cl : List vw_C) (A : Nat → Prop) (xa : Nat → Nat) (nL : Nat) (H0 : Heap) (N0 : Nat) (r0 : Nat → Int) (ad : Nat → Nat) (cut : rx_Z → Bool) : Prop :=
  ∀ z_p : rx_Z, cut z_p = true → ∀ (r_p : Nat → Int) (H' : Heap) (locs' : List Loc) (ls' : Array Slot), N0 ≤ z_p.1.length → rx_same N0 r0 r_p → rx_R D cl A s xa nL H0 z_p r_p ad H' locs' ls' → W p l e R s m args below meth c H' locs' z_p.2.2.2.1 z_p.2.2.2.2.1 Q (F0 m (rx_zpc z_p) ls' ((rx_zst z_p).map (rx_iv r_p ad xa)))
/-- a run's ends lead to what is wanted -/
def rx_Goal (f d : Nat) (cut : rx_Z → Bool) (B : bx_B) (xh : rx_Xh) (T : rx_Tb) (G NW : List Jvm.Cond) (AO : List String) (cl : List vw_C) (nm : Nat → String) (A : Nat → Prop) (xa : Nat → Nat) (PX : State → Prop) (l : Launch) (D : bx_D) (ad : Nat → Nat) : Prop :=
  ∀ (M : rx_Mt) (z : rx_Z) (Es : List rx_End), rx_exec B xh T cut f d M z = some Es → nm M.1 = M.2.2.2.2.1.cls →
  ∀ {p : Program} {e : Env} {R : Room} {s : State} {m : MethodId} {args : Array Value} {below : List Frame} {meth : Method} {c : Code} {Q : State → Prop} {H0 H : Heap} {locs : List Loc} {ls : Array Slot} {r : Nat → Int} {N0 : Nat} {r0 : Nat → Int},
    rx_Fr G NW AO PX p s m args meth c M → (∀ q, H0.size ≤ q → A q) → H0 = s.heap → M.2.2.2.2.2.2.1 ≤ R.cells → M.2.2.2.2.2.2.2 ≤ R.slots → d ≤ R.frames → d * 40 ≤ R.locals → N0 ≤ z.1.length → rx_same N0 r0 r → rx_Cut p l e R s m args below meth c Q D cl A xa M.2.2.1 H0 N0 r0 ad cut → rx_R D cl A s xa M.2.2.1 H0 z r ad H locs ls →
    (∀ E ∈ Es, ∀ (r_p : Nat → Int) (H' : Heap) (locs' : List Loc) (ls' : Array Slot) (pc' k' n' : Nat), z.1.length ≤ E.1.length → rx_same z.1.length r r_p → rx_RE D cl A s xa E r_p ad H' → va_S A H0 H' locs' → k' ≤ M.2.2.2.2.2.2.1 → n' ≤ M.2.2.2.2.2.2.2 → rx_rti M pc' r_p ad xa E.2.2.2 →
      W p l e R s m args below meth c H' locs' k' n' Q (F0 m pc' ls' (E.2.2.2.toList.map (rx_iv r_p ad xa)))) →
    W p l e R s m args below meth c H locs z.2.2.2.1 z.2.2.2.2.1 Q (F0 m (rx_zpc z) ls ((rx_zst z).map (rx_iv r ad xa)))
theorem rx_toList_map {r : Nat → Int} {ad xa : Nat → Nat} (v : Option rx_V) : (v.map (rx_iv r ad xa)).toList = v.toList.map (rx_iv r ad xa) := by
  cases v <;> rfl
/-- the end of a frame, by its return instruction -/
theorem bx_leave {p : Program} {l : Launch} {e : Env} {R : Room} {s : State} {m : MethodId} {args : Array Value} {below : List Frame} {meth : Method} {c : Code} {M : rx_Mt} {Qc : Array Value → State → Outcome → State → Prop} {free : Addr → Prop} {H : Heap} {locs : List Loc} {k n pc : Nat} {ls : Array Slot} {r : Nat → Int} {ad xa : Nat → Nat} {v : Option rx_V} (hx : p.tables.exec = Jvm.exec) (hb : c.code = M.2.1) (hr : meth.sig.returnType = M.2.2.2.1) (hlocks : meth.locks = false)
    (hrt : rx_rti M pc r ad xa v) (hpost : ∀ t : State, t.heap = H → s.WarmedH t.vm → Qc args s (.returned (v.map (rx_iv r ad xa))) t) (hf : ∀ q ∈ locs, free q.base) : W p l e R s m args below meth c H locs k n (MQ below Qc args s k n free) (F0 m pc ls (v.toList.map (rx_iv r ad xa))) := by
  match v, hrt, hpost with
  | none, hrt, hpost => exact W.vret hx hb (hr.trans hrt.2) hpost hf hrt.1
  | some (.inl _), hrt, hpost => exact hrt.elim
  | some (.inr (0, q)), hrt, hpost =>
    obtain ⟨h1, ty, h2, h3⟩ := hrt
    exact W.zret hx hb (hr.trans h2) h3 hpost hf h1
  | some (.inr (1, q)), hrt, hpost => exact W.lret hx hb (hr.trans hrt.2) hpost hf hrt.1
  | some (.inr (2, q)), hrt, hpost => exact hrt.elim
  | some (.inr (_ + 3, q)), hrt, hpost =>
    obtain ⟨h1, ty, h2, h3⟩ := hrt
    exact W.aret hx hb (hr.trans h2) h3 (Or.inr ⟨_, rfl⟩) hpost hf h1
set_option maxHeartbeats 1000000 in
/-- a method meets what its run says -/
theorem rx_met {A : Nat → Prop} {xa : Nat → Nat} {PX : State → Prop} {l : Launch} {D : bx_D} {ad : Nat → Nat} {f d j : Nat} (hGG : ∀ w ∈ G, goodWord w = true) (tm : rx_mlOK G nm T) (ih : rx_Goal f d (fun _ => false) B xh T G NW AO cl nm A xa PX l D ad) {M_p : rx_Mt} (hj : T.2.2.2.2.2 j = some M_p) {z : rx_Z} {as : List rx_V} {Es : List rx_End} {r : Nat → Int}
    (hex : rx_exec B xh T (fun _ => false) f d M_p (rx_z0 z as) = some Es) (hsat : rx_sat z.1 r) (hfa : rx_facts z.2.1 r) (hfs : rx_fsc z.1.length z.2.1) (has : ∀ v ∈ as, rx_sc z.1.length z.2.2.1.length v) (hcats : rx_cats as ≤ M_p.2.2.1) :
    Met l M_p.2.2.2.2.1 (Jvm.Cond.code M_p.2.2.2.2.1 M_p.2.1 M_p.2.2.1 M_p.2.2.2.1 :: G) { frames := d, cells := M_p.2.2.2.2.2.2.1, slots := M_p.2.2.2.2.2.2.2, locals := d * 40 } (va_Pc (as.map (rx_iv r ad xa)) (rx_Pre NW AO PX D cl A xa z r ad)) (rx_Post D cl A xa z.1.length r ad Es) M_p.2.2.2.2.2.2.1 M_p.2.2.2.2.2.2.2 A := by
  obtain ⟨m1, m2, m3, m4, m5, m6⟩ := tm j M_p hj
  refine Met.ofW (cc := M_p.2.1) (maxL := M_p.2.2.1) (ret := M_p.2.2.2.1) m3 rfl ?_
  intro p e s m args below meth c s₁ B0 hml hv
  obtain ⟨hargs, hnw, hao, hpx, hW0, hA⟩ := hv
  subst hargs
  have hx := B0.exec
  have hb := B0.bytes
  have hr := B0.returns
  have hts0 := atoms_spec (ws := Jvm.Cond.code M_p.2.2.2.2.1 M_p.2.1 M_p.2.2.1 M_p.2.2.2.1 :: G) B0.pre
  have hts : ∀ w ∈ G, w.before (as.map (rx_iv r ad xa)).toArray s = true := fun w hw => hts0 w (List.mem_cons_of_mem _ hw)
  have hown : s.vm.findClass M_p.2.2.2.2.1.cls = some m.cls := findClass_of_methodNamed B0.named
  have hlocks := B0.notSynchronized
  have hname : meth.name = M_p.2.2.2.2.1.name := (name_of_methodNamed B0.named B0.method).1
  have hF : rx_Fr G NW AO PX p s m (as.map (rx_iv r ad xa)).toArray meth c M_p := ⟨hx, hb, hr, hml, hown, hlocks, hts, hnw, hao, hpx, fun hi => hname.trans (m6 hi)⟩
  have hl := lv_entry (as.map (rx_iv r ad xa)) (n := M_p.2.2.1) (by rw [rx_cats_sl]; exact hcats)
  rw [lg_entry_eq]
  generalize (lg_sl (as.map (rx_iv r ad xa)) ++ List.replicate (M_p.2.2.1 - (lg_sl (as.map (rx_iv r ad xa))).length) Slot.unset).toArray = ls at hl ⊢
  rw [← rx_largs_lv] at hl
  have hR0 : rx_R D cl A s xa M_p.2.2.1 s.heap (rx_z0 z as) r ad s.heap [] ls :=
    ⟨hsat, hfa, hfs, hW0.to va_S.rf, hl, fun q hq => has _ (rx_largs_mem hq), fun v hv => absurd hv List.not_mem_nil⟩
  refine ih M_p (rx_z0 z as) Es hex m1 (N0 := 0) (r0 := r) hF hA rfl (Nat.le_refl _) (Nat.le_refl _) (Nat.le_refl _) (Nat.le_refl _) (Nat.zero_le _) rx_same.rf (fun z_p h => absurd h Bool.false_ne_true) hR0 ?_
  intro E hE r_p H' locs' ls' pc' k' n' hN hsr hRE hS hk hn hrt
  have hpost : ∀ t : State, t.heap = H' → s.WarmedH t.vm → rx_Post D cl A xa z.1.length r ad Es (as.map (rx_iv r ad xa)).toArray s (.returned (E.2.2.2.map (rx_iv r_p ad xa))) t := by
    intro t ht hW
    refine ⟨⟨E, hE, r_p, hN, hsr, ⟨hRE.1, hRE.2.1, hRE.2.2.1, ?_, hRE.2.2.2.2⟩, rfl⟩, hS.F ht⟩
    rw [ht]
    exact hRE.2.2.2.1.moved hW.alike
  exact W.widen hk hn (bx_leave hx hb hr hlocks hrt hpost hS.2.2)
end RXV
