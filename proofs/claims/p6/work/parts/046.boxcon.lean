/-! THE BOX MACHINE: contracts -/
/-- fields of fixed places of which more is asked: place, field, kind, what it may be -/
abbrev bx_Pr : Type := List (Nat × Nat × Nat × bx_T)
/-- what is given (kind, what it may be), what comes back, the fields that may be written, how deep its calls go, what is asked of fields -/
abbrev bx_Ct : Type := List (Nat × bx_T) × Option (Nat × bx_T) × List (Nat × Nat) × Nat × bx_Pr
def bx_argOK (L : bx_L) (ad : Nat → Nat) : List (Nat × bx_T) → List Value → Prop
  | [], vs => vs = []
  | a :: as, vs => ∃ (w : Int) (vt : List Value), vs = bx_fv ad a.1 w :: vt ∧ bx_okR L 0 a.2 w ∧ bx_argOK L ad as vt
def bx_preOK (L : bx_L) (ad : Nat → Nat) (S : Nat → Int → Int) (ps : bx_Pr) : Prop := ∀ q ∈ ps, ∃ w : Int, bx_fv ad q.2.2.1 (S q.1 (q.2.1 : Int)) = bx_fv ad q.2.2.1 w ∧ bx_okR L 0 q.2.2.2 w
def bx_mdl (ms : List (Nat × Nat)) (ci k : Nat) : Bool := ms.any (fun q => q.1 == ci && q.2 == k)
def bx_retOK (L : bx_L) (ad : Nat → Nat) (ret : Option (Nat × bx_T)) (rv : Option Value) : Prop := match ret with
  | none => rv = none
  | some a => ∃ w : Int, rv = some (bx_fv ad a.1 w) ∧ bx_okR L 0 a.2 w
def bx_PreC (NW : List Jvm.Cond) (AO : List String) (PX : State → Prop) (Dg : va_G) (L : bx_L) (cl : List vw_C) (A : Nat → Prop) (ad : Nat → Nat) (S0 : Nat → Int → Int) (U : State) : Prop :=
  (∀ w ∈ NW, va_Nw w U) ∧ (∀ C ∈ AO, va_AO C U) ∧ PX U ∧ bx_W0 (Dg, L, S0, fun _ _ => false) cl A U ad S0 U.heap ∧ ∀ q, U.heap.size ≤ q → A q
def bx_PostC (Dg : va_G) (L : bx_L) (X : (Nat → Int → Int) → Prop) (cl : List vw_C) (A : Nat → Prop) (ad : Nat → Nat) (S0 : Nat → Int → Int) (ret : Option (Nat × bx_T)) (ms : List (Nat × Nat)) : Array Value → State → Outcome → State → Prop := fun _ st oc t =>
  (∃ (S_p : Nat → Int → Int) (rv : Option Value), oc = .returned rv ∧ bx_retOK L ad ret rv ∧ bx_W0 (Dg, L, S0, fun _ _ => false) cl A t ad S_p t.heap ∧ bx_same L (bx_mdl ms) S0 S_p ∧ X S_p) ∧ va_F A st t
def bx_Con (G NW : List Jvm.Cond) (AO : List String) (PX : State → Prop) (Dg : va_G) (L : bx_L) (X : (Nat → Int → Int) → Prop) (cl : List vw_C) (A : Nat → Prop) (ad : Nat → Nat) (l : Launch) (M : rx_Mt) (ct : bx_Ct) : Prop :=
  ∀ (S0 : Nat → Int → Int) (vs : List Value), X S0 → bx_argOK L ad ct.1 vs → bx_preOK L ad S0 ct.2.2.2.2 →
    Met l M.2.2.2.2.1 (Jvm.Cond.code M.2.2.2.2.1 M.2.1 M.2.2.1 M.2.2.2.1 :: G) { frames := ct.2.2.2.1, cells := M.2.2.2.2.2.2.1, slots := M.2.2.2.2.2.2.2, locals := ct.2.2.2.1 * 40 } (va_Pc vs (bx_PreC NW AO PX Dg L cl A ad S0)) (bx_PostC Dg L X cl A ad S0 ct.2.1 ct.2.2.1) M.2.2.2.2.2.2.1 M.2.2.2.2.2.2.2 A
/-- the symbols of what is given -/
def bx_ent0 (np : Nat) : List (Nat × bx_T) → rx_I → List rx_C → Option (rx_I × List rx_C × List rx_V)
  | [], I, ht => some (I, ht, [])
  | a :: as, I, ht => match bx_nv a.1 0 np a.2 I ht with
    | none => none
    | some q => match bx_ent0 np as q.1 q.2.1 with
      | none => none
      | some q2 => some (q2.1, q2.2.1, q.2.2 :: q2.2.2)
def bx_ent1 (B : bx_B) : bx_Pr → rx_I → List rx_C → Option (rx_I × List rx_C)
  | [], I, ht => some (I, ht)
  | q :: qs, I, ht => match B.1.1 none (q.1 : Int) with
    | some k => rx_if (decide (q.2.1 < 1000000) && bx_tcs k q.2.1 == some q.2.2.1) (match bx_nv q.2.2.1 0 B.2.1 q.2.2.2 I ht with
      | some a => bx_ent1 B qs a.1 ((((0, (q.1 : Int)), q.2.1), a.2.2) :: a.2.1)
      | none => none)
    | none => none
def bx_I0 : rx_I := [(0, 0), (0, 0), (0, 0), (0, 0), (0, 0), (0, 0), (0, 0), (0, 0)]
def bx_fE (dmf : Nat → Int → Bool) (ret : Option (Nat × bx_T)) (E : rx_End) : Bool := match ret, E.2.2.2 with
  | none, none => true
  | some a, some v => bx_fits dmf E.1 E.2.2.1 a.1 0 a.2 v
  | _, _ => false
def bx_okO (fE : rx_End → Bool) (o : Option (List rx_End)) : Bool := match o with
  | some Es => Es.all fE
  | none => false
/-- a method keeps its contract -/
def bx_chk (B : bx_B) (xh : rx_Xh) (T : rx_Tb) (mk : rx_Z → rx_Z → List rx_E) (f : Nat) (M : rx_Mt) (ct : bx_Ct) (tab : bx_tab) : Bool := match bx_ent0 B.2.1 ct.1 bx_I0 [] with
  | some (I0, ht0, as) => match bx_ent1 B ct.2.2.2.2 I0 ht0 with
    | some (I, ht) => decide (rx_cats as ≤ M.2.2.1) && (!(bx_lg B.2.2.2) && bx_okO (bx_fE B.2.2.1 ct.2.1) (rx_exec B xh T (bx_cut B.2.2.1 mk tab none) f ct.2.2.2.1 M (I, [], ht, 0, 0, 0, rx_largs 0 as, [])) &&
      tab.all (fun q => q.2.all (fun c => decide (c.2.1.1 < q.1.1.length)) && bx_okO (bx_fE B.2.2.1 ct.2.1) (rx_exec B xh T (bx_cut B.2.2.1 mk tab (some q.2)) f ct.2.2.2.1 M q.1)))
    | none => false
  | none => false
theorem bx_okO_ok {fE : rx_End → Bool} {o : Option (List rx_End)} (h : bx_okO fE o = true) : ∃ Es, o = some Es ∧ Es.all fE = true := by
  unfold bx_okO at h
  split at h
  · rename_i Es
    exact ⟨Es, rfl, h⟩
  · exact absurd h Bool.false_ne_true
theorem bx_W0_md {Dg : va_G} {L : bx_L} {S1 S2 : Nat → Int → Int} {m1 m2 : Nat → Nat → Bool} {cl : List vw_C} {A : Nat → Prop} {s : State} {ad : Nat → Nat} {S : Nat → Int → Int} {H : Heap} (h : bx_W0 (Dg, L, S1, m1) cl A s ad S H) : bx_W0 (Dg, L, S2, m2) cl A s ad S H := h
section BXC
variable {s : State} {D : bx_D} {cl : List vw_C} {A : Nat → Prop} {xa : Nat → Nat} {ad : Nat → Nat} {V : bx_V}
theorem bx_args_ok {np : Nat} {S : Nat → Int → Int} (hV : bx_VOK D.2.1 V) (hnp : np = D.2.1.2.1) : ∀ {args : List (Nat × bx_T)} {vs : List Value} {I I2 : rx_I} {ht ht2 : List rx_C} {as : List rx_V} {r : Nat → Int}, bx_argOK D.2.1 ad args vs → rx_sat I r → bx_kns D ad xa S I.length ht r → bx_ent0 np args I ht = some (I2, ht2, as) →
    ∃ r_p : Nat → Int, rx_same I.length r r_p ∧ rx_sat I2 r_p ∧ I.length ≤ I2.length ∧ bx_kns D ad xa S I2.length ht2 r_p ∧ as.map (rx_iv r_p ad xa) = vs ∧ ∀ v ∈ as, rx_sc I2.length 0 v
  | [], vs, I, I2, ht, ht2, as, r, ha, hs, hk, h => by
    have ha : vs = [] := ha
    rw [bx_ent0] at h
    cases h
    subst ha
    exact ⟨r, rx_same.rf, hs, Nat.le_refl _, hk, rfl, fun v hv => absurd hv List.not_mem_nil⟩
  | a :: args, vs, I, I2, ht, ht2, as, r, ha, hs, hk, h => by
    obtain ⟨w, vt, hvs, hok, hrest⟩ := ha
    subst hvs
    rw [bx_ent0] at h
    split at h
    · cases h
    · rename_i q hq
      split at h
      · cases h
      · rename_i q2 hq2
        cases h
        obtain ⟨Iq, hq', vq⟩ := q
        obtain ⟨I3, ht3, as3⟩ := q2
        obtain ⟨r1, a1, a2, a3, a4, a5, a6, -⟩ := bx_nv_ok (w := w) hV hnp hs (rx_pos hs) hk hq (by rw [hs.1]; exact hok)
        obtain ⟨r2, b1, b2, b3, b4, b5, b6⟩ := bx_args_ok hV hnp hrest a2 a5 hq2
        refine ⟨r2, a1.tr b1 a3, b2, Nat.le_trans a3 b3, b4, ?_, fun v hv => ?_⟩
        · rw [List.map_cons, b5, rx_iv_ext (M := 0) (ad' := ad) a4 b1 rx_sameA.rf, a6]
        · rcases List.mem_cons.mp hv with h | h
          · subst h
            exact rx_sc.mono a4 b3 trivial
          · exact b6 v h
theorem bx_pre_ok {B : bx_B} {S : Nat → Int → Int} (hV : bx_VOK D.2.1 B.1) (hnp : B.2.1 = D.2.1.2.1) : ∀ {ps : bx_Pr} {I I2 : rx_I} {ht ht2 : List rx_C} {r : Nat → Int}, bx_preOK D.2.1 ad S ps → rx_sat I r → bx_kns D ad xa S I.length ht r → bx_ent1 B ps I ht = some (I2, ht2) →
    ∃ r_p : Nat → Int, rx_same I.length r r_p ∧ rx_sat I2 r_p ∧ I.length ≤ I2.length ∧ bx_kns D ad xa S I2.length ht2 r_p
  | [], I, I2, ht, ht2, r, _, hs, hk, h => by
    rw [bx_ent1] at h
    cases h
    exact ⟨r, rx_same.rf, hs, Nat.le_refl _, hk⟩
  | q :: ps, I, I2, ht, ht2, r, hp, hs, hk, h => by
    obtain ⟨w, hw1, hw2⟩ := hp q List.mem_cons_self
    rw [bx_ent1] at h
    split at h
    · rename_i kd hkd
      obtain ⟨hc, h2⟩ := rx_if_ok h
      clear h
      rw [Bool.and_eq_true, decide_eq_true_eq, beq_iff_eq] at hc
      obtain ⟨p1, p2, p3⟩ := hV.1 none _ _ hkd 0 rfl
      rw [Int.zero_add] at p1 p2 p3
      split at h2
      · rename_i a ha
        obtain ⟨Ia, hta, va⟩ := a
        obtain ⟨r1, a1, a2, a3, a4, a5, a6, -⟩ := bx_nv_ok (w := w) hV hnp hs (rx_pos hs) hk ha (by rw [hs.1]; exact hw2)
        have hk2 : bx_kns D ad xa S Ia.length ((((0, (q.1 : Int)), q.2.1), va) :: hta) r1 := fun y hy => by
          rcases List.mem_cons.mp hy with h | h
          · subst h
            refine ⟨rx_pos a2, a4, ?_⟩
            unfold bx_kn
            rw [if_neg (by dsimp only; omega)]
            dsimp only
            rw [rx_ev0 a2]
            rw [p3]
            refine ⟨p1, p2, q.2.2.1, hc.2, ?_⟩
            rw [a6, Int.toNat_natCast, hw1]
          · exact a5 y h
        obtain ⟨r2, b1, b2, b3, b4⟩ := bx_pre_ok hV hnp (fun y hy => hp y (List.mem_cons_of_mem _ hy)) a2 hk2 h2
        exact ⟨r2, a1.tr b1 a3, b2, Nat.le_trans a3 b3, b4⟩
      · cases h2
    · cases h
end BXC
section BXD
variable {X : (Nat → Int → Int) → Prop} {B : bx_B} {G NW : List Jvm.Cond} {AO : List String} {cl : List vw_C} {T : rx_Tb} {nm : Nat → String} {xh : rx_Xh} {l : Launch} {Dg : va_G} {L : bx_L} {A : Nat → Prop} {xa : Nat → Nat} {PX : State → Prop} {ad : Nat → Nat}
theorem bx_I0_sat : rx_sat bx_I0 (fun _ => 0) := by
  refine ⟨rfl, Nat.le_of_ble_eq_true rfl, fun n lo hi h => ?_⟩
  have hm := List.mem_of_getElem? h
  have h0 : ∀ q ∈ bx_I0, q = (0, 0) := by decide
  have := h0 _ hm
  cases this
  exact ⟨Int.le_refl _, Int.le_refl _⟩
theorem bx_con {mk : rx_Z → rx_Z → List rx_E} {f j : Nat} {M : rx_Mt} {ct : bx_Ct} {tab : bx_tab} (hGG : ∀ w ∈ G, goodWord w = true) (hPX : rx_PXOK NW A PX) (t1 : rx_frOK G NW cl nm T) (t4 : rx_kcOK G nm T) (tm : rx_mlOK G nm T) (tc : rx_cjOK G NW cl nm T) (hV : bx_VOK L B.1) (hnp : B.2.1 = L.2.1) (hdm : B.2.2.1 = L.2.2.2) (hmd : B.2.2.2 = bx_mdl ct.2.2.1) (hX : ∀ S S_p : Nat → Int → Int, X S → bx_same L (bx_mdl ct.2.2.1) S S_p → X S_p)
    (hxh : ∀ S0, X S0 → rx_xhOK xh G NW AO cl nm A xa PX l (Dg, L, S0, bx_mdl ct.2.2.1) ad ct.2.2.2.1) (hj : T.2.2.2.2.2 j = some M) (hc : bx_chk B xh T mk f M ct tab = true) : bx_Con G NW AO PX Dg L X cl A ad l M ct := by
  intro S0 vs hX0 hvs hpr
  obtain ⟨m1, m2, m3, m4, m5, m6⟩ := tm j M hj
  unfold bx_chk at hc
  split at hc
  · rename_i I0 ht0 as hent
    split at hc
    case h_2 => exact absurd hc Bool.false_ne_true
    rename_i I ht hen1
    rw [Bool.and_eq_true, Bool.and_eq_true, Bool.and_eq_true, decide_eq_true_eq, Bool.not_eq_true'] at hc
    obtain ⟨hcats, ⟨hlg, hc1⟩, hc2⟩ := hc
    rw [hmd] at hlg
    obtain ⟨Es, hex, hEs⟩ := bx_okO_ok hc1
    refine Met.ofW (cc := M.2.1) (maxL := M.2.2.1) (ret := M.2.2.2.1) m3 rfl ?_
    intro p e s m args below meth c s₁ B0 hml hv
    obtain ⟨hargs, hnw, hao, hpx, hW0, hA⟩ := hv
    subst hargs
    have hx := B0.exec
    have hb := B0.bytes
    have hr := B0.returns
    have hts0 := atoms_spec (ws := Jvm.Cond.code M.2.2.2.2.1 M.2.1 M.2.2.1 M.2.2.2.1 :: G) B0.pre
    have hts : ∀ w ∈ G, w.before vs.toArray s = true := fun w hw => hts0 w (List.mem_cons_of_mem _ hw)
    have hown : s.vm.findClass M.2.2.2.2.1.cls = some m.cls := findClass_of_methodNamed B0.named
    have hlocks := B0.notSynchronized
    have hname : meth.name = M.2.2.2.2.1.name := (name_of_methodNamed B0.named B0.method).1
    have hF : rx_Fr G NW AO PX p s m vs.toArray meth c M := ⟨hx, hb, hr, hml, hown, hlocks, hts, hnw, hao, hpx, fun hi => hname.trans (m6 hi)⟩
    obtain ⟨r0, -, a20, a30, a40, a50, a60⟩ := bx_args_ok (D := (Dg, L, S0, bx_mdl ct.2.2.1)) (ad := ad) (xa := xa) (S := S0) hV hnp hvs bx_I0_sat (fun q hq => absurd hq List.not_mem_nil) hent
    obtain ⟨r, b1, a2, b3, a4⟩ := bx_pre_ok (D := (Dg, L, S0, bx_mdl ct.2.2.1)) (ad := ad) (xa := xa) (S := S0) hV hnp hpr a20 a40 hen1
    have a5 : as.map (rx_iv r ad xa) = vs := by
      rw [rx_st_ext (M := 0) (fun v hv => a60 v hv) b1 rx_sameA.rf, a50]
    have a6 : ∀ v ∈ as, rx_sc I.length 0 v := fun v hv => rx_sc.mono (a60 v hv) b3 trivial
    have hl := lv_entry vs (n := M.2.2.1) (by rw [← a5, rx_cats_sl]; exact hcats)
    rw [lg_entry_eq]
    generalize (lg_sl vs ++ List.replicate (M.2.2.1 - (lg_sl vs).length) Slot.unset).toArray = ls at hl ⊢
    rw [← a5, ← rx_largs_lv] at hl
    have hR0 : rx_R (Dg, L, S0, bx_mdl ct.2.2.1) cl A s xa M.2.2.1 s.heap (I, [], ht, 0, 0, 0, rx_largs 0 as, []) r ad s.heap [] ls :=
      ⟨a2, fun f h => absurd h List.not_mem_nil, fun f h => absurd h List.not_mem_nil, ⟨S0, bx_W0_md hW0, va_S.rf, ⟨fun _ _ _ _ _ => rfl, fun h => by
        rw [show bx_lg (bx_mdl ct.2.2.1) = true from h] at hlg
        exact absurd hlg.symm Bool.false_ne_true⟩, a4⟩, hl, fun q hq => rx_sc.any (a6 _ (rx_largs_mem hq)), fun v hv => absurd hv List.not_mem_nil⟩
    refine bx_enter (D := (Dg, L, S0, bx_mdl ct.2.2.1)) (r := r) (fE := bx_fE B.2.2.1 ct.2.1) hlg hdm (fun cut => rx_goal hGG hPX t1 t4 tm tc hV hnp hdm hmd (hxh S0 hX0) f ct.2.2.2.1 (Nat.le_refl _) cut) m1 (fun q hq => ?_) hex hEs hF hA rfl (Nat.le_refl _) (Nat.le_refl _) (Nat.le_refl _) (Nat.le_refl _) ?_ hR0
    · have h1 := List.all_eq_true.mp hc2 q hq
      rw [Bool.and_eq_true] at h1
      exact ⟨h1.1, bx_okO_ok h1.2⟩
    · intro E hE r_p H' locs' ls' pc' k' n' hRE hS hk hn hrt
      have hpost : ∀ t : State, t.heap = H' → s.WarmedH t.vm → bx_PostC Dg L X cl A ad S0 ct.2.1 ct.2.2.1 vs.toArray s (.returned (E.2.2.2.map (rx_iv r_p ad xa))) t := by
        intro t ht' hW
        obtain ⟨b1, b2, b3, ⟨S_p, c1, ⟨c2, -⟩, c3⟩, b5⟩ := hRE
        refine ⟨⟨S_p, _, rfl, ?_, ?_, c2, hX _ _ hX0 c2⟩, hS.F ht'⟩
        · unfold bx_fE at hE
          unfold bx_retOK
          split at hE
          · rename_i h1 h2
            rw [h1, h2]
            rfl
          · rename_i a v h1 h2
            rw [hdm] at hE
            obtain ⟨n1, n2, -⟩ := bx_fits_ok (D := (Dg, L, S0, bx_mdl ct.2.2.1)) (ad := ad) (xa := xa) b1 c3 hE
            rw [h1, h2]
            rw [b1.1] at n2
            exact ⟨_, congrArg some n1, n2⟩
          · exact absurd hE Bool.false_ne_true
        · rw [ht']
          exact bx_W0_md (c1.moved hW.alike)
      exact W.widen hk hn (bx_leave hx hb hr hlocks hrt hpost hS.2.2)
  · exact absurd hc Bool.false_ne_true
/-- a call of a method that has a contract -/
def bx_fitL (dmf : Nat → Int → Bool) (I : rx_I) (ht : List rx_C) : List (Nat × bx_T) → List rx_V → Bool
  | [], [] => true
  | a :: as, v :: vs => bx_fits dmf I ht a.1 0 a.2 v && bx_fitL dmf I ht as vs
  | _, _ => false
def bx_preC (B : bx_B) (I : rx_I) (ht : List rx_C) (ps : bx_Pr) : Bool := ps.all (fun q => match B.1.1 none (q.1 : Int) with
  | some k => decide (q.2.1 < 1000000) && (bx_tcs k q.2.1 == some q.2.2.1 && (match bx_ck ht (0, (q.1 : Int)) q.2.1 with
    | some v => bx_fits B.2.2.1 I ht q.2.2.1 0 q.2.2.2 v
    | none => (match B.1.2.1 none (q.1 : Int) (q.2.1 : Int) (q.2.1 : Int) 1 with
      | some t => t == q.2.2.2
      | none => false)))
  | none => false)
def bx_fitP (B : bx_B) (z : rx_Z) (ct : bx_Ct) (as : List rx_V) : Bool := bx_fitL B.2.2.1 z.1 z.2.2.1 ct.1 as && bx_preC B z.1 z.2.2.1 ct.2.2.2.2
def bx_keepC (V : bx_V) (ht : List rx_C) (ms : List (Nat × Nat)) (q : rx_C) : Bool := decide (1000000 ≤ q.1.2) || (match bx_dm ht q.1.1.1 with
  | some d => match V.1 d q.1.1.2 with
    | some k => !(bx_mdl ms (bx_mc k q.1.2).1 (bx_mc k q.1.2).2)
    | none => false
  | none => false)
/-- what may be other behind a call, where all is written down -/
def bx_hv1 (m : Nat × Nat) : rx_C := (((0, 0), 3000000 * (2 + 3 * (m.1 * 100000 + m.2))), .inl none)
def bx_hvk (q : rx_C) (m : Nat × Nat) : Bool := bx_isE q && (bx_kd q == 2 && ((bx_hc q).1 == m.1 && (bx_hc q).2 == m.2))
def bx_hav : List (Nat × Nat) → List rx_C → List rx_C
  | [], ht => bx_hv1 (99999, 0) :: ht
  | m :: ms, ht => bx_hv1 m :: bx_hav ms ht
def bx_aft (B : bx_B) (ms : List (Nat × Nat)) (ht : List rx_C) : List rx_C := match bx_lg B.2.2.2 with
  | false => ht.filter (bx_keepC B.1 ht ms)
  | true => bx_hav ms (ht.filter (bx_keepC B.1 ht ms))
def bx_afk (B : bx_B) (ms : List (Nat × Nat)) : Bool := !(bx_lg B.2.2.2) || ms.all (fun m => bx_hvk (bx_hv1 m) m)
def bx_bk (M_p : rx_Mt) (I : rx_I) (ht : List rx_C) (z : rx_Z) (st : List rx_V) : rx_Z := match z with
  | (_, F1, _, c0, s0, pc0, lv0, _) => (I, F1, ht, c0 + M_p.2.2.2.2.2.2.1, s0 + M_p.2.2.2.2.2.2.2, pc0 + 3, lv0, st)
def bx_one (B : bx_B) (ct : bx_Ct) (M_p : rx_Mt) (d : Nat) (z : rx_Z) (as t : List rx_V) : Option (List rx_Z) := rx_if (decide (ct.2.2.2.1 + 1 ≤ d) && (bx_fitP B z ct as && (ct.2.2.1.all (fun p => B.2.2.2 p.1 p.2) && bx_afk B ct.2.2.1))) (match ct.2.1 with
      | none => some [bx_bk M_p z.1 (bx_aft B ct.2.2.1 z.2.2.1) z t]
      | some a => match bx_nv a.1 0 B.2.1 a.2 z.1 (bx_aft B ct.2.2.1 z.2.2.1) with
        | some (I, ht, v) => some [bx_bk M_p I ht z (v :: t)]
        | none => none)
/-- the first contract that fits -/
def bx_any (B : bx_B) (M_p : rx_Mt) (d : Nat) (z : rx_Z) (as t : List rx_V) : List bx_Ct → Option (List rx_Z)
  | [] => none
  | ct :: l => match bx_one B ct M_p d z as t with
    | some zs => some zs
    | none => bx_any B M_p d z as t l
theorem bx_any_ok {B : bx_B} {M_p : rx_Mt} {d : Nat} {z : rx_Z} {as t : List rx_V} {zs : List rx_Z} : ∀ {l : List bx_Ct}, bx_any B M_p d z as t l = some zs → ∃ ct ∈ l, bx_one B ct M_p d z as t = some zs
  | [], h => by cases h
  | ct :: l, h => by
    rw [bx_any] at h
    split at h
    · rename_i zs2 h2
      cases h
      exact ⟨ct, List.mem_cons_self, h2⟩
    · obtain ⟨c2, h3, h4⟩ := bx_any_ok h
      exact ⟨c2, List.mem_cons_of_mem _ h3, h4⟩
def bx_hook (B : bx_B) (T : rx_Tb) (Cn : Nat → List bx_Ct) : rx_Xh := fun d M i len z => match rx_prep B T M i len z with
  | none => none
  | some (q, M_p, as, t) => bx_any B M_p d z as t (Cn q.2.2.2)
theorem bx_fitL_ok {D : bx_D} {S : Nat → Int → Int} {I : rx_I} {ht : List rx_C} {r : Nat → Int} (hs : rx_sat I r) (hk : bx_kns D ad xa S I.length ht r) : ∀ {args : List (Nat × bx_T)} {as : List rx_V}, bx_fitL D.2.1.2.2.2 I ht args as = true → bx_argOK D.2.1 ad args (as.map (rx_iv r ad xa))
  | [], [], _ => rfl
  | [], _ :: _, h => absurd (show false = true from h) Bool.false_ne_true
  | _ :: _, [], h => absurd (show false = true from h) Bool.false_ne_true
  | a :: args, v :: vs, h => by
    rw [bx_fitL, Bool.and_eq_true] at h
    obtain ⟨n1, n2, -⟩ := bx_fits_ok (ad := ad) (xa := xa) hs hk h.1
    rw [hs.1] at n2
    exact ⟨bx_num r v, vs.map (rx_iv r ad xa), by rw [List.map_cons, n1], n2, bx_fitL_ok hs hk h.2⟩
theorem bx_preC_ok {D : bx_D} {S : Nat → Int → Int} {I : rx_I} {ht : List rx_C} {r : Nat → Int} {ps : bx_Pr} (hV : bx_VOK D.2.1 B.1) (hdm : B.2.2.1 = D.2.1.2.2.2) (hs : rx_sat I r) (hk : bx_kns D ad xa S I.length ht r) (hI : bx_Inv D.2.1 S) (h : bx_preC B I ht ps = true) : bx_preOK D.2.1 ad S ps := fun q hq => by
  have h1 := List.all_eq_true.mp h q hq
  split at h1
  · rename_i kd hkd
    rw [Bool.and_eq_true, Bool.and_eq_true, decide_eq_true_eq, beq_iff_eq] at h1
    obtain ⟨g1, g2, g3⟩ := h1
    obtain ⟨p1, p2, p3⟩ := hV.1 none _ _ hkd 0 rfl
    rw [Int.zero_add, Int.toNat_natCast] at p2 p3
    split at g3
    · rename_i v hck
      rw [hdm] at g3
      obtain ⟨k1, k2, k3⟩ := hk _ (bx_ck_ok hck)
      unfold bx_kn at k3
      rw [if_neg (by dsimp only; omega)] at k3
      dsimp only at k3
      rw [rx_ev0 hs, Int.toNat_natCast] at k3
      obtain ⟨-, -, tc2, v4, v5⟩ := k3
      rw [p3, g2] at v4
      cases v4
      obtain ⟨n1, n2, -⟩ := bx_fits_ok (ad := ad) (xa := xa) hs hk g3
      rw [hs.1] at n2
      exact ⟨bx_num r v, by rw [← n1, v5], n2⟩
    · split at g3
      · rename_i t ht2
        have g3 := eq_of_beq g3
        subst g3
        refine ⟨S q.1 (q.2.1 : Int), rfl, ?_⟩
        have hw : q.2.1 < bx_wd (D.2.1.1 q.1) := by
          rw [p3]
          exact bx_tcs_wd g2
        have hin := hI q.1 q.2.1 p2 hw
        refine hV.2.1 none _ _ _ _ _ ht2 0 rfl (q.2.1 : Int) _ (Int.le_refl _) (Int.le_refl _) (Int.emod_one _) ?_
        rw [Int.zero_add, Int.toNat_natCast]
        exact hin
      · exact absurd g3 Bool.false_ne_true
  · exact absurd h1 Bool.false_ne_true
theorem bx_keepC_ok {D : bx_D} {S S_p : Nat → Int → Int} {ht : List rx_C} {N : Nat} {I : rx_I} {r : Nat → Int} {ms : List (Nat × Nat)} (hV : bx_VOK D.2.1 B.1) (hs : rx_sat I r) (hk : bx_kns D ad xa S N ht r) (hsm : bx_same D.2.1 (bx_mdl ms) S S_p) : bx_kns D ad xa S_p N (ht.filter (bx_keepC B.1 ht ms)) r := fun q hq => by
  obtain ⟨h1, h2⟩ := List.mem_filter.mp hq
  obtain ⟨g1, g2, g3⟩ := hk q h1
  refine ⟨g1, g2, ?_⟩
  unfold bx_kn at g3 ⊢
  split
  · rename_i hc
    rw [if_pos hc] at g3
    exact g3
  · rename_i hc
    rw [if_neg hc] at g3
    obtain ⟨a1, a2, tc2, a4, a5⟩ := g3
    refine ⟨a1, a2, tc2, a4, ?_⟩
    rw [a5]
    unfold bx_keepC at h2
    rw [Bool.or_eq_true, decide_eq_true_eq] at h2
    rcases h2 with h2 | h2
    · exact absurd h2 hc
    · split at h2
      · rename_i d hd
        split at h2
        · rename_i kd hkd
          obtain ⟨p1, p2, p3⟩ := hV.1 d q.1.1.2 _ hkd _ (bx_dm_ok hs hk hd)
          have p3 : D.2.1.1 (rx_ev r q.1.1).toNat = kd := p3
          have hwd := bx_tcs_wd a4
          rw [hsm _ _ a2 hwd (by rw [p3]; simpa using h2)]
        · exact absurd h2 Bool.false_ne_true
      · exact absurd h2 Bool.false_ne_true
theorem bx_hav_ok {L : bx_L} {N : Nat} {r : Nat → Int} {S0 : Nat → Int → Int} {ht : List rx_C} : ∀ {ms : List (Nat × Nat)} {S S_p : Nat → Int → Int}, ms.all (fun m => bx_hvk (bx_hv1 m) m) = true → bx_chain L N r S0 ht S → bx_same L (bx_mdl ms) S S_p → bx_chain L N r S0 (bx_hav ms ht) S_p
  | [], S, S_p, _, h, hs => by
    have hk : bx_kd (bx_hv1 (99999, 0)) = 2 := by decide
    refine bx_chain_evt (by decide) ⟨⟨trivial, fun g => absurd g (by rw [hk]; omega)⟩, ?_⟩
    rw [if_neg (by rw [hk]; omega), if_neg (by rw [hk]; omega)]
    exact ⟨S, h, fun p i hp hi _ => hs p i hp hi rfl⟩
  | m :: ms, S, S_p, hm, h, hs => by
    rw [List.all_cons, Bool.and_eq_true] at hm
    obtain ⟨hm1, hm2⟩ := hm
    unfold bx_hvk at hm1
    rw [Bool.and_eq_true, Bool.and_eq_true, Bool.and_eq_true, beq_iff_eq, beq_iff_eq, beq_iff_eq] at hm1
    obtain ⟨k1, k2, k3, k4⟩ := hm1
    have hS1 : bx_same L (bx_mdl ms) S (fun p j => if bx_mc (L.1 p) j.toNat = m then S p j else S_p p j) := fun p i hp hi hmd => by
      show (if bx_mc (L.1 p) (i : Int).toNat = m then S p i else S_p p i) = S p i
      rw [Int.toNat_natCast]
      split
      · rfl
      · rename_i hne
        refine hs p i hp hi ?_
        unfold bx_mdl at hmd ⊢
        rw [List.any_cons, hmd, Bool.or_false, Bool.and_eq_false_iff]
        by_cases h1 : m.1 = (bx_mc (L.1 p) i).1
        · refine Or.inr (beq_false_of_ne fun h2 => hne ?_)
          exact (Prod.ext h1 h2).symm
        · exact Or.inl (beq_false_of_ne h1)
    refine bx_chain_evt k1 ⟨⟨trivial, fun g => absurd g (by rw [k2]; omega)⟩, ?_⟩
    rw [if_neg (by rw [k2]; omega), if_neg (by rw [k2]; omega)]
    refine ⟨_, bx_hav_ok hm2 h hS1, fun p i hp hi hne => ?_⟩
    show S_p p i = if bx_mc (L.1 p) (i : Int).toNat = m then S p i else S_p p i
    rw [Int.toNat_natCast, if_neg]
    intro hq
    exact hne (hq.trans (Prod.ext k3 k4).symm)
theorem bx_hav_kns {D : bx_D} {V : bx_V} {S : Nat → Int → Int} {N : Nat} {I : rx_I} {r : Nat → Int} {ht : List rx_C} (hV : bx_VOK D.2.1 V) (hs : rx_sat I r) (h0 : 0 < N) : ∀ {ms : List (Nat × Nat)}, ms.all (fun m => bx_hvk (bx_hv1 m) m) = true → bx_kns D ad xa S N ht r → bx_kns D ad xa S N (bx_hav ms ht) r
  | [], _, h => bx_kns.evt hV hs h0 h (by decide) rfl trivial
  | m :: ms, hm, h => by
    rw [List.all_cons, Bool.and_eq_true] at hm
    refine bx_kns.evt hV hs h0 (bx_hav_kns hV hs h0 hm.2 h) ?_ rfl trivial
    have hm1 := hm.1
    unfold bx_hvk at hm1
    rw [Bool.and_eq_true] at hm1
    exact hm1.1
theorem bx_aft_ok {D : bx_D} {S S_p S0 : Nat → Int → Int} {ht : List rx_C} {N : Nat} {I : rx_I} {r : Nat → Int} {ms : List (Nat × Nat)} (hV : bx_VOK D.2.1 B.1) (hs : rx_sat I r) (h0 : 0 < N) (hmd : B.2.2.2 = D.2.2.2) (hk : bx_kns D ad xa S N ht r) (hch : bx_lg D.2.2.2 = true → bx_chain D.2.1 N r S0 ht S) (hsm : bx_same D.2.1 (bx_mdl ms) S S_p) (ha : bx_afk B ms = true) :
    bx_kns D ad xa S_p N (bx_aft B ms ht) r ∧ (bx_lg D.2.2.2 = true → bx_chain D.2.1 N r S0 (bx_aft B ms ht) S_p) := by
  unfold bx_aft
  unfold bx_afk at ha
  rw [← hmd] at hch ⊢
  have h1 := bx_keepC_ok hV hs hk hsm
  split
  · rename_i hl
    exact ⟨h1, fun h => by rw [hl] at h; exact absurd h Bool.false_ne_true⟩
  · rename_i hl
    rw [hl, Bool.not_true, Bool.false_or] at ha
    refine ⟨bx_hav_kns hV hs h0 ha h1, fun _ => bx_hav_ok ha (bx_chain_filter (fun y hy => ?_) (hch hl)) hsm⟩
    have := bx_isE_le hy
    unfold bx_keepC
    rw [decide_eq_true (show 1000000 ≤ y.1.2 by omega), Bool.true_or]
theorem bx_hook_ok {Cn : Nat → List bx_Ct} {dm : Nat} {S0 : Nat → Int → Int} {md : Nat → Nat → Bool} (hGG : ∀ w ∈ G, goodWord w = true) (hPX : rx_PXOK NW A PX) (tm : rx_mlOK G nm T) (tc : rx_cjOK G NW cl nm T) (hV : bx_VOK L B.1) (hnp : B.2.1 = L.2.1) (hdm : B.2.2.1 = L.2.2.2) (hmd : B.2.2.2 = md) (hXm : ∀ S : Nat → Int → Int, bx_same L md S0 S → X S)
    (hC : ∀ (j : Nat) (ct : bx_Ct) (M : rx_Mt), ct ∈ Cn j → ct.2.2.2.1 + 1 ≤ dm → T.2.2.2.2.2 j = some M → bx_Con G NW AO PX Dg L X cl A ad l M ct) : rx_xhOK (bx_hook B T Cn) G NW AO cl nm A xa PX l (Dg, L, S0, md) ad dm := by
  intro d M i len z zs hdm2 h hn p e R s m args below meth c Q H0 H locs ls r hF hA hH0 hmc hms hd hdl hdg hR K
  unfold bx_hook at h
  split at h
  · cases h
  · rename_i q M_p as t hprep
    · obtain ⟨ct, hct, h⟩ := bx_any_ok h
      unfold bx_one at h
      obtain ⟨hcond, h2⟩ := rx_if_ok h
      clear h
      rw [Bool.and_eq_true, Bool.and_eq_true, Bool.and_eq_true, decide_eq_true_eq] at hcond
      obtain ⟨g1, g2, g3, g4⟩ := hcond
      unfold bx_fitP at g2
      rw [Bool.and_eq_true] at g2
      obtain ⟨g2, g2p⟩ := g2
      obtain ⟨has, htsc, hcats, hlen3, hM'⟩ := rx_prep_sc hR hprep
      subst hlen3
      obtain ⟨S, hW, hS, hsm, hkn⟩ := id hR.2.2.2.1
      rw [hdm] at g2
      have hargs := bx_fitL_ok (D := (Dg, L, S0, md)) (ad := ad) (xa := xa) hR.1 hkn g2
      have hprC := bx_preC_ok (D := (Dg, L, S0, md)) (ad := ad) (xa := xa) hV hdm hR.1 hkn (by obtain ⟨ws, tys, hI, -⟩ := hW; exact hI) g2p
      have hMet := hC _ _ _ hct (Nat.le_trans g1 hdm2) hM' S _ (hXm S hsm.1) hargs hprC
      have hblind : FrameBlind (va_Pc (as.map (rx_iv r ad xa)) (bx_PreC NW AO PX Dg L cl A ad S)) := fun a U g mk h => by
        obtain ⟨h0, h1, h2, h3, h4, h5⟩ := h
        exact ⟨h0, fun w hw => va_Nw.same (u := U) (U := U.calling g mk a) (hPX.1 w hw).1 rfl (h1 w hw), fun C hC => va_AO.moved (Vm.Alike.refl U.vm) (h2 C hC), hPX.2.1 U g mk a h3, h4.moved (U := U.calling g mk a) (Vm.Alike.refl U.vm), h5⟩
      have hpre : ∀ U : State, U.heap = H → s.WarmedH U.vm → bx_PreC NW AO PX Dg L cl A ad S U := fun U hU hWm => by
        obtain ⟨k1, k2, k3, -, k5⟩ := rx_pre_at hPX hF hA hH0 hR U hU hWm
        refine ⟨k1, k2, k3, ?_, k5⟩
        rw [hU]
        exact bx_W0_md (hW.moved hWm.alike)
      have hrun := bx_call (l := l) (D := (Dg, L, S0, md)) (below := below) (e := e) hGG tm tc hV hn hF hmc hms (Nat.le_trans g1 hd) (by have := Nat.mul_le_mul_right 40 g1; omega) hR hdg hprep hMet hblind hpre
      refine rx_call hrun hS (fun _ _ _ h => h.2) fun v st tt H1 locs1 ht hst hvm hpost hS1 => ?_
      obtain ⟨⟨S_p, rv, hov, hret, hW', hsame, hX_p⟩, -⟩ := hpost
      cases hov
      rw [ht] at hW'
      have hW1 : bx_W0 (Dg, L, S0, md) cl A s ad S_p H1 := bx_W0_md (hW'.moved hvm.symm)
      have hsm1 : bx_same L md S0 S_p := fun p_p i_p hp' hi' hm' => by
        have hmd2 : bx_mdl ct.2.2.1 (bx_mc (L.1 p_p) i_p).1 (bx_mc (L.1 p_p) i_p).2 = false := by
          refine Bool.eq_false_iff.mpr fun hh => ?_
          unfold bx_mdl at hh
          obtain ⟨x, hx1, hx2⟩ := List.any_eq_true.mp hh
          rw [Bool.and_eq_true, beq_iff_eq, beq_iff_eq] at hx2
          have := List.all_eq_true.mp g3 x hx1
          rw [hx2.1, hx2.2, hmd, hm'] at this
          exact Bool.false_ne_true this
        rw [hsame p_p i_p hp' hi' hmd2]
        exact hsm.1 p_p i_p hp' hi' hm'
      obtain ⟨hkn1, hch1⟩ := bx_aft_ok (D := (Dg, L, S0, md)) (B := B) (S0 := S0) hV hR.1 (rx_pos hR.1) hmd hkn hsm.2 hsame g4
      split at h2
      · rename_i hr0
        cases h2
        rw [hr0] at hret
        have hret : v = none := hret
        subst hret
        refine rx_at (K _ List.mem_cons_self) rx_same.rf rx_sameA.rf ⟨hR.1, hR.2.1, hR.2.2.1, ⟨S_p, hW1, hS1, ⟨hsm1, hch1⟩, hkn1⟩, hR.2.2.2.2.1, fun y hy => rx_sc.any (hR.2.2.2.2.2.1 y hy), fun y hy => rx_sc.any (htsc y hy)⟩ rfl rfl rfl rfl
      · rename_i a hr0
        split at h2
        · rename_i I2 ht2 v2 hnv
          cases h2
          rw [hr0] at hret
          obtain ⟨w, hrv, hokw⟩ := hret
          subst hrv
          obtain ⟨r_p, q1, q2, q3, q4, q5, q6, -, q8⟩ := bx_nv_ok (D := (Dg, L, S0, md)) (w := w) hV hnp hR.1 (rx_pos hR.1) hkn1 hnv (by rw [hR.1.1]; exact hokw)
          refine rx_at (K _ List.mem_cons_self) q1 rx_sameA.rf ⟨q2, rx_facts_ext hR.2.1 hR.2.2.1 q1, hR.2.2.1.mono q3, ⟨S_p, hW1, hS1, ⟨hsm1, fun hl => q8 _ (hch1 hl)⟩, q5⟩, ?_, fun y hy => rx_sc.any (rx_sc.mono (M_p := 0) (rx_lvsc hR y hy) q3 trivial), fun y hy => ?_⟩ rfl rfl rfl ?_ q3
          · have hl := rx_lvh hR
            show lv_has ls M.2.2.1 (rx_lvs r_p ad xa (rx_zlv z))
            rw [rx_lvs_ext (rx_lvsc hR) q1 rx_sameA.rf]
            exact hl
          · rcases List.mem_cons.mp hy with h | h
            · subst h; exact rx_sc.any q4
            · exact rx_sc.any (rx_sc.mono (M_p := 0) (htsc y h) q3 trivial)
          · show rx_iv r_p ad xa v2 :: t.map (rx_iv r_p ad xa) = _
            rw [q6, rx_st_ext htsc q1 rx_sameA.rf]
            rfl
        · cases h2
end BXD
