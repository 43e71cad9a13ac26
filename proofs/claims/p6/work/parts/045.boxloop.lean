/-! THE BOX MACHINE: cases of patterns; loops by measures -/
section BXT
variable {s : State} {D : bx_D} {cl : List vw_C} {A : Nat → Prop} {xa : Nat → Nat} {nL : Nat} {H0 H : Heap} {locs : List Loc} {ls : Array Slot} {r : Nat → Int} {ad : Nat → Nat} {σ : List rx_E} {z y : rx_Z}
theorem bx_sub_ok {dmf : Nat → Int → Bool} (hlg : bx_lg D.2.2.2 = false) (hdm : dmf = D.2.1.2.2.2) (hR : rx_R D cl A s xa nL H0 z r ad H locs ls) (h : bx_sub dmf σ z y = true) :
    rx_R D cl A s xa nL H0 y (bx_val σ r) ad H locs ls ∧ rx_zpc z = rx_zpc y ∧ z.2.2.2.1 = y.2.2.2.1 ∧ z.2.2.2.2.1 = y.2.2.2.2.1 ∧ (rx_zst z).map (rx_iv r ad xa) = (rx_zst y).map (rx_iv (bx_val σ r) ad xa) ∧ σ.length = y.1.length := by
  subst hdm
  unfold bx_sub at h
  simp only [Bool.and_eq_true, decide_eq_true_eq, beq_iff_eq, List.all_eq_true] at h
  obtain ⟨h0, h8, hI, hF, hH, hc, hs, hpc, hlv, hst, hsS⟩ := h
  have hsat := hR.1
  obtain ⟨i1, i2⟩ := bx_subI_ok hsat hI
  have hz : bx_val σ r 0 = 0 := by
    split at h0
    · show rx_ev r (0, 0) = 0
      exact rx_ev0 hsat 0
    · exact absurd h0 Bool.false_ne_true
  have hsat2 : rx_sat y.1 (bx_val σ r) := ⟨hz, h8, fun n lo hi hn => by
    obtain ⟨e, g1, g2, g3⟩ := i2 n lo hi hn
    unfold bx_val
    rw [g1]
    exact ⟨g2, g3⟩⟩
  have hF0 : ∀ f ∈ y.2.1, rx_fact (bx_val σ r) f ∧ f.2.1.1 < y.1.length ∧ f.2.2.1 < y.1.length ∧ (1000000 ≤ f.1 → (bx_de (f.1 / 1000000)).1 < y.1.length) := fun f hf => by
    have h1 := hF f hf
    unfold bx_subF at h1
    rw [Bool.and_eq_true, Bool.and_eq_true, decide_eq_true_eq, decide_eq_true_eq] at h1
    obtain ⟨k1, k2, k3⟩ := h1
    have ea : rx_ev r (bx_sE σ f.2.1) = rx_ev (bx_val σ r) f.2.1 := bx_sE_ok (by rw [← i1]; exact k1)
    have eb : rx_ev r (bx_sE σ f.2.2) = rx_ev (bx_val σ r) f.2.2 := bx_sE_ok (by rw [← i1]; exact k2)
    obtain ⟨fk, fa, fb⟩ := f
    dsimp only at k1 k2 k3 ea eb
    split at k3
    · rename_i hk
      refine ⟨?_, k1, k2, fun q => absurd q (by show ¬ 1000000 ≤ fk; omega)⟩
      have h2 := bx_ent_ok hsat hR.2.1 hR.2.2.1 k3
      rcases (show fk = 0 ∨ fk = 1 by omega) with rfl | rfl
      · have h2 : rx_ev r (bx_sE σ fa) < rx_ev r (bx_sE σ fb) := h2
        rw [ea, eb] at h2
        exact h2
      · have h2 : rx_ev r (bx_sE σ fa) ≤ rx_ev r (bx_sE σ fb) := h2
        rw [ea, eb] at h2
        exact h2
    · rw [Bool.and_eq_true, Bool.and_eq_true, decide_eq_true_eq, decide_eq_true_eq] at k3
      obtain ⟨k3, k4, k5⟩ := k3
      refine ⟨?_, k1, k2, fun q => absurd q (by show ¬ 1000000 ≤ fk; omega)⟩
      obtain ⟨g, hg, k6⟩ := List.any_eq_true.mp k5
      rw [Bool.and_eq_true, Bool.and_eq_true, beq_iff_eq] at k6
      obtain ⟨k6, k7, k8⟩ := k6
      have h2 := hR.2.1 g hg
      obtain ⟨gk, ga, gb⟩ := g
      dsimp only at k6 k7 k8
      subst k6
      obtain ⟨j, rfl⟩ : ∃ j, gk = j + 4 := ⟨gk - 4, by omega⟩
      have h2 : if j < 999996 then rx_ev r ga = (j : Int) * rx_ev r gb else rx_ev r ga = rx_ev r gb + rx_ev r (bx_de ((j + 4) / 1000000)) := h2
      rw [if_pos (by omega), bx_eqE_ok hsat k7, bx_eqE_ok hsat k8, ea, eb] at h2
      exact rx_fact_mul (by omega) h2
  obtain ⟨S, hW, hS, hsm, hkn⟩ := id hR.2.2.2.1
  have hkn2 : bx_kns D ad xa S y.1.length y.2.2.1 (bx_val σ r) := fun q hq => by
    obtain ⟨g1, g2, g3⟩ := hH q hq
    refine ⟨g1, bx_scV_ok g2, ?_⟩
    have hev : rx_ev r (bx_sE σ q.1.1) = rx_ev (bx_val σ r) q.1.1 := bx_sE_ok (by rw [← i1]; exact g1)
    unfold bx_subH at g3
    unfold bx_kn
    split
    · rename_i hcc
      rw [if_pos hcc] at g3
      rw [← hev]
      simp only [Bool.or_eq_true, Bool.and_eq_true, beq_iff_eq] at g3
      rcases g3 with ⟨k1, k2⟩ | ⟨k1, k2⟩
      · have e1 : rx_ev r (bx_sE σ q.1.1) = (bx_sE σ q.1.1).2 := by
          unfold rx_ev
          rw [k1, hsat.1, Int.zero_add]
        rw [e1]
        exact k2
      · have e1 : rx_ev r (bx_sE σ q.1.1) = r (bx_sE σ q.1.1).1 := by
          unfold rx_ev
          rw [k1, Int.add_zero]
        rw [e1]
        exact (bx_fd_ok hkn k2).1
    · rename_i hcc
      rw [if_neg hcc] at g3
      split at g3
      · rename_i v hck
        obtain ⟨p1, p2, p3⟩ := hkn _ (bx_ck_ok hck)
        unfold bx_kn at p3
        rw [if_neg hcc] at p3
        have p3 : 0 ≤ rx_ev r (bx_sE σ q.1.1) ∧ (rx_ev r (bx_sE σ q.1.1)).toNat < D.2.1.2.1 ∧ ∃ tc : Nat, bx_tcs (D.2.1.1 (rx_ev r (bx_sE σ q.1.1)).toNat) q.1.2 = some tc ∧ rx_iv r ad xa v = bx_fv ad tc (S (rx_ev r (bx_sE σ q.1.1)).toNat (q.1.2 : Int)) := p3
        rw [hev] at p3
        obtain ⟨a1, a2, tc, a4, a5⟩ := p3
        refine ⟨a1, a2, tc, a4, ?_⟩
        rw [← a5]
        exact (bx_eqV_ok hsat (by rw [← i1]; exact g2) g3).symm
      · exact absurd g3 Bool.false_ne_true
  refine ⟨⟨hsat2, fun f hf => ?_, fun f hf => ?_, ⟨S, hW, hS, ⟨hsm.1, fun h => by rw [hlg] at h; exact absurd h Bool.false_ne_true⟩, hkn2⟩, ?_, fun q hq => bx_scV_ok (hlv q hq).1, fun v hv => bx_scV_ok (hst v hv)⟩, hpc, hc, hs, ?_, i1.symm⟩
  · exact (hF0 f hf).1
  · exact (hF0 f hf).2
  · have hl : lv_has ls nL (rx_lvs r ad xa (rx_zlv z)) := rx_lvh hR
    refine ⟨hl.1, hl.2.1, fun q hq => ?_⟩
    obtain ⟨q0, hq0, rfl⟩ := List.mem_map.mp hq
    obtain ⟨g1, g2⟩ := hlv q0 hq0
    split at g2
    · rename_i v hv
      have := rx_lv_get hl hv
      rw [bx_eqV_ok hsat (by rw [← i1]; exact g1) g2] at this
      exact this
    · exact absurd g2 Bool.false_ne_true
  · exact bx_subS_ok hsat (List.all_eq_true.mpr fun v hv => by rw [← i1]; exact hst v hv) hsS
end BXT
/-- a measure: what goes down to a bound (true), up to one (false) -/
abbrev bx_ms : Type := List (Bool × rx_E × Int)
def bx_mv (r : Nat → Int) (q : Bool × rx_E × Int) : Nat := match q.1 with
  | true => (rx_ev r q.2.1 - q.2.2).toNat
  | false => (q.2.2 - rx_ev r q.2.1).toNat
def bx_enc (r : Nat → Int) : bx_ms → Nat
  | [] => 0
  | q :: l => bx_mv r q * 1208925819614629174706176 ^ l.length + bx_enc r l
def bx_mb (I : rx_I) (q : Bool × rx_E × Int) : Bool := match rx_bd I q.2.1 with
  | some (lo, hi) => (match q.1 with
    | true => decide (hi - q.2.2 < 1208925819614629174706176)
    | false => decide (q.2.2 - lo < 1208925819614629174706176))
  | none => false
def bx_dn (I : rx_I) (F : rx_F) (s : Bool) (e' e : rx_E) (k : Int) : Bool := match s with
  | true => bx_ent I F 0 e' e && bx_ent I F 1 (0, k) e'
  | false => bx_ent I F 0 e e' && bx_ent I F 1 e' (0, k)
def bx_dle (I : rx_I) (F : rx_F) (s : Bool) (e' e : rx_E) : Bool := match s with
  | true => bx_ent I F 1 e' e
  | false => bx_ent I F 1 e e'
def bx_lex (I : rx_I) (F : rx_F) : bx_ms → bx_ms → Bool
  | [], _ => false
  | q_p :: ns, os => match os with
    | [] => false
    | q :: os => q_p.1 == q.1 && (decide (q_p.2.2 = q.2.2) && ((ns.length == os.length && (ns.all (bx_mb I) && bx_dn I F q.1 q_p.2.1 q.2.1 q.2.2)) || (bx_dle I F q.1 q_p.2.1 q.2.1 && bx_lex I F ns os)))
theorem bx_mb_ok {I : rx_I} {r : Nat → Int} {q : Bool × rx_E × Int} (hs : rx_sat I r) (h : bx_mb I q = true) : bx_mv r q < 1208925819614629174706176 := by
  obtain ⟨b, e, k⟩ := q
  unfold bx_mb at h
  unfold bx_mv
  split at h
  · rename_i lo hi hb
    obtain ⟨p1, p2, -⟩ := rx_bd_ok hs hb
    cases b
    · have h : k - lo < 1208925819614629174706176 := of_decide_eq_true h
      show (k - rx_ev r e).toNat < _
      dsimp only at p1 p2
      omega
    · have h : hi - k < 1208925819614629174706176 := of_decide_eq_true h
      show (rx_ev r e - k).toNat < _
      dsimp only at p1 p2
      omega
  · exact absurd h Bool.false_ne_true
theorem bx_enc_lt {I : rx_I} {r : Nat → Int} (hs : rx_sat I r) : ∀ {l : bx_ms}, l.all (bx_mb I) = true → bx_enc r l < 1208925819614629174706176 ^ l.length
  | [], _ => Nat.zero_lt_one
  | q :: l, h => by
    rw [List.all_cons, Bool.and_eq_true] at h
    have h1 := bx_mb_ok hs h.1
    have h2 := bx_enc_lt hs h.2
    rw [bx_enc, List.length_cons, Nat.pow_succ, Nat.mul_comm (1208925819614629174706176 ^ l.length)]
    generalize 1208925819614629174706176 ^ l.length = X at h2 ⊢
    have h3 : bx_mv r q * X + X ≤ 1208925819614629174706176 * X := by
      rw [← Nat.succ_mul]
      exact Nat.mul_le_mul_right X h1
    omega
theorem bx_lex_ok {I : rx_I} {F : rx_F} {r : Nat → Int} (hs : rx_sat I r) (hF : rx_facts F r) (hfs : rx_fsc I.length F) : ∀ {ns os : bx_ms}, bx_lex I F ns os = true → ns.length = os.length ∧ bx_enc r ns < bx_enc r os
  | [], _, h => absurd (show false = true from h) Bool.false_ne_true
  | _ :: _, [], h => absurd (show false = true from h) Bool.false_ne_true
  | (s', e', k') :: ns, (s, e, k) :: os, h => by
    have h : (s' == s && (decide (k' = k) && ((ns.length == os.length && (ns.all (bx_mb I) && bx_dn I F s e' e k)) || (bx_dle I F s e' e && bx_lex I F ns os)))) = true := h
    rw [Bool.and_eq_true, Bool.and_eq_true, beq_iff_eq, decide_eq_true_eq, Bool.or_eq_true] at h
    obtain ⟨rfl, rfl, h⟩ := h
    rw [bx_enc, bx_enc, List.length_cons, List.length_cons]
    rcases h with h | h
    · rw [Bool.and_eq_true, Bool.and_eq_true, beq_iff_eq] at h
      obtain ⟨g1, g2, g3⟩ := h
      have h2 := bx_enc_lt hs g2
      rw [g1] at h2 ⊢
      have h1 : bx_mv r (s', e', k') < bx_mv r (s', e, k') := by
        cases s'
        · have g3 : (bx_ent I F 0 e e' && bx_ent I F 1 e' (0, k')) = true := g3
          rw [Bool.and_eq_true] at g3
          have p1 : rx_ev r e < rx_ev r e' := bx_ent_ok hs hF hfs g3.1
          have p2 : rx_ev r e' ≤ rx_ev r (0, k') := bx_ent_ok hs hF hfs g3.2
          rw [rx_ev0 hs] at p2
          show (k' - rx_ev r e').toNat < (k' - rx_ev r e).toNat
          omega
        · have g3 : (bx_ent I F 0 e' e && bx_ent I F 1 (0, k') e') = true := g3
          rw [Bool.and_eq_true] at g3
          have p1 : rx_ev r e' < rx_ev r e := bx_ent_ok hs hF hfs g3.1
          have p2 : rx_ev r (0, k') ≤ rx_ev r e' := bx_ent_ok hs hF hfs g3.2
          rw [rx_ev0 hs] at p2
          show (rx_ev r e' - k').toNat < (rx_ev r e - k').toNat
          omega
      refine ⟨rfl, ?_⟩
      generalize 1208925819614629174706176 ^ os.length = X at h2 ⊢
      have h3 : bx_mv r (s', e', k') * X + X ≤ bx_mv r (s', e, k') * X := by
        rw [← Nat.succ_mul]
        exact Nat.mul_le_mul_right X h1
      omega
    · rw [Bool.and_eq_true] at h
      obtain ⟨g1, g2⟩ := h
      obtain ⟨i1, i2⟩ := bx_lex_ok hs hF hfs g2
      have h1 : bx_mv r (s', e', k') ≤ bx_mv r (s', e, k') := by
        cases s'
        · have p1 : rx_ev r e ≤ rx_ev r e' := bx_ent_ok hs hF hfs (show bx_ent I F 1 e e' = true from g1)
          show (k' - rx_ev r e').toNat ≤ (k' - rx_ev r e).toNat
          omega
        · have p1 : rx_ev r e' ≤ rx_ev r e := bx_ent_ok hs hF hfs (show bx_ent I F 1 e' e = true from g1)
          show (rx_ev r e' - k').toNat ≤ (rx_ev r e - k').toNat
          omega
      rw [i1]
      refine ⟨rfl, ?_⟩
      have h3 := Nat.mul_le_mul_right (1208925819614629174706176 ^ os.length) h1
      omega
abbrev bx_tab : Type := List (rx_Z × bx_ms)
def bx_cut (dmf : Nat → Int → Bool) (mk : rx_Z → rx_Z → List rx_E) (tab : bx_tab) (m0 : Option bx_ms) (z_p : rx_Z) : Bool :=
  tab.any (fun q => rx_zpc z_p == rx_zpc q.1 && (bx_sub dmf (mk q.1 z_p) z_p q.1 && (match m0 with
    | none => true
    | some m => bx_lex z_p.1 z_p.2.1 (q.2.map (fun c => (c.1, bx_sE (mk q.1 z_p) c.2.1, c.2.2))) m)))
theorem bx_enc_map {r : Nat → Int} {σ : List rx_E} : ∀ {l : bx_ms}, l.all (fun c => decide (c.2.1.1 < σ.length)) = true → bx_enc r (l.map (fun c => (c.1, bx_sE σ c.2.1, c.2.2))) = bx_enc (bx_val σ r) l
  | [], _ => rfl
  | q :: l, h => by
    rw [List.all_cons, Bool.and_eq_true, decide_eq_true_eq] at h
    rw [List.map_cons, bx_enc, bx_enc, bx_enc_map h.2, List.length_map]
    congr 2
    obtain ⟨b, e, k⟩ := q
    have h1 := bx_sE_ok (r := r) h.1
    dsimp only at h1
    unfold bx_mv
    dsimp only
    rw [h1]
theorem bx_enc_same {r r_p : Nat → Int} {N : Nat} (hr : rx_same N r r_p) : ∀ {l : bx_ms}, l.all (fun c => decide (c.2.1.1 < N)) = true → bx_enc r_p l = bx_enc r l
  | [], _ => rfl
  | q :: l, h => by
    rw [List.all_cons, Bool.and_eq_true, decide_eq_true_eq] at h
    rw [bx_enc, bx_enc, bx_enc_same hr h.2]
    unfold bx_mv
    rw [rx_ev_ext h.1 hr]
section BXW
variable {B : bx_B} {G NW : List Jvm.Cond} {AO : List String} {cl : List vw_C} {T : rx_Tb} {nm : Nat → String} {xh : rx_Xh} {l : Launch} {D : bx_D} {A : Nat → Prop} {xa : Nat → Nat} {PX : State → Prop}
variable {p : Program} {e : Env} {R : Room} {s : State} {m : MethodId} {args : Array Value} {below : List Frame} {meth : Method} {c : Code} {Q : State → Prop} {H0 : Heap} {ad : Nat → Nat}
/-- where runs end, all is done -/
def bx_Ret (p : Program) (l : Launch) (e : Env) (R : Room) (s : State) (m : MethodId) (args : Array Value) (below : List Frame) (meth : Method) (c : Code) (Q : State → Prop) (D : bx_D) (cl : List vw_C) (A : Nat → Prop) (xa : Nat → Nat) (H0 : Heap) (ad : Nat → Nat) (M : rx_Mt) (fE : rx_End → Bool) : Prop :=
  ∀ E : rx_End, fE E = true → ∀ (r_p : Nat → Int) (H' : Heap) (locs' : List Loc) (ls' : Array Slot) (pc' k' n' : Nat), rx_RE D cl A s xa E r_p ad H' → va_S A H0 H' locs' → k' ≤ M.2.2.2.2.2.2.1 → n' ≤ M.2.2.2.2.2.2.2 → rx_rti M pc' r_p ad xa E.2.2.2 →
    W p l e R s m args below meth c H' locs' k' n' Q (F0 m pc' ls' (E.2.2.2.toList.map (rx_iv r_p ad xa)))
theorem bx_loop {dmf : Nat → Int → Bool} {mk : rx_Z → rx_Z → List rx_E} {tab : bx_tab} {fE : rx_End → Bool} {f d : Nat} {M : rx_Mt} (hlg : bx_lg D.2.2.2 = false) (hdm : dmf = D.2.1.2.2.2) (hg : ∀ cut, rx_Goal f d cut B xh T G NW AO cl nm A xa PX l D ad) (hn : nm M.1 = M.2.2.2.2.1.cls)
    (hruns : ∀ q ∈ tab, q.2.all (fun c => decide (c.2.1.1 < q.1.1.length)) = true ∧ ∃ Es, rx_exec B xh T (bx_cut dmf mk tab (some q.2)) f d M q.1 = some Es ∧ Es.all fE = true)
    (hF : rx_Fr G NW AO PX p s m args meth c M) (hA : ∀ q, H0.size ≤ q → A q) (hH0 : H0 = s.heap) (hmc : M.2.2.2.2.2.2.1 ≤ R.cells) (hms : M.2.2.2.2.2.2.2 ≤ R.slots) (hd : d ≤ R.frames) (hdl : d * 40 ≤ R.locals) (hret : bx_Ret p l e R s m args below meth c Q D cl A xa H0 ad M fE) :
    ∀ (n : Nat) (q : rx_Z × bx_ms), q ∈ tab → ∀ (r : Nat → Int) (H : Heap) (locs : List Loc) (ls : Array Slot), bx_enc r q.2 = n → rx_R D cl A s xa M.2.2.1 H0 q.1 r ad H locs ls →
      W p l e R s m args below meth c H locs q.1.2.2.2.1 q.1.2.2.2.2.1 Q (F0 m (rx_zpc q.1) ls ((rx_zst q.1).map (rx_iv r ad xa))) := by
  intro n
  induction n using Nat.strongRecOn with
  | _ n ih =>
    intro q hq r H locs ls hen hR
    obtain ⟨hsc, Es, hex, hfE⟩ := hruns q hq
    refine hg _ M q.1 Es hex hn (N0 := q.1.1.length) (r0 := r) hF hA hH0 hmc hms hd hdl (Nat.le_refl _) rx_same.rf ?_ hR fun E hE r_p H' locs' ls' pc' k' n' _ _ hRE hS hk hn' hrt => hret E (List.all_eq_true.mp hfE E hE) r_p H' locs' ls' pc' k' n' hRE hS hk hn' hrt
    intro z_p hc r_p H' locs' ls' hN hr hR'
    unfold bx_cut at hc
    obtain ⟨q_p, hq', hc⟩ := List.any_eq_true.mp hc
    rw [Bool.and_eq_true, Bool.and_eq_true] at hc
    obtain ⟨-, hc1, hc2⟩ := hc
    obtain ⟨g1, g2, g3, g4, g5, g6⟩ := bx_sub_ok hlg hdm hR' hc1
    obtain ⟨-, hlt⟩ := bx_lex_ok hR'.1 hR'.2.1 hR'.2.2.1 hc2
    rw [bx_enc_map (by rw [g6]; exact (hruns q_p hq').1), bx_enc_same hr hsc, hen] at hlt
    have := ih _ hlt q_p hq' _ H' locs' ls' rfl g1
    rw [g2, g3, g4, g5]
    exact this
theorem bx_enter {dmf : Nat → Int → Bool} {mk : rx_Z → rx_Z → List rx_E} {tab : bx_tab} {fE : rx_End → Bool} {f d : Nat} {M : rx_Mt} {z : rx_Z} {Es : List rx_End} {r : Nat → Int} {H : Heap} {locs : List Loc} {ls : Array Slot} (hlg : bx_lg D.2.2.2 = false) (hdm : dmf = D.2.1.2.2.2) (hg : ∀ cut, rx_Goal f d cut B xh T G NW AO cl nm A xa PX l D ad) (hn : nm M.1 = M.2.2.2.2.1.cls)
    (hruns : ∀ q ∈ tab, q.2.all (fun c => decide (c.2.1.1 < q.1.1.length)) = true ∧ ∃ Es, rx_exec B xh T (bx_cut dmf mk tab (some q.2)) f d M q.1 = some Es ∧ Es.all fE = true)
    (hex : rx_exec B xh T (bx_cut dmf mk tab none) f d M z = some Es) (hfE : Es.all fE = true)
    (hF : rx_Fr G NW AO PX p s m args meth c M) (hA : ∀ q, H0.size ≤ q → A q) (hH0 : H0 = s.heap) (hmc : M.2.2.2.2.2.2.1 ≤ R.cells) (hms : M.2.2.2.2.2.2.2 ≤ R.slots) (hd : d ≤ R.frames) (hdl : d * 40 ≤ R.locals) (hret : bx_Ret p l e R s m args below meth c Q D cl A xa H0 ad M fE) (hR : rx_R D cl A s xa M.2.2.1 H0 z r ad H locs ls) :
    W p l e R s m args below meth c H locs z.2.2.2.1 z.2.2.2.2.1 Q (F0 m (rx_zpc z) ls ((rx_zst z).map (rx_iv r ad xa))) := by
  refine hg _ M z Es hex hn (N0 := 0) (r0 := r) hF hA hH0 hmc hms hd hdl (Nat.zero_le _) rx_same.rf ?_ hR fun E hE r_p H' locs' ls' pc' k' n' _ _ hRE hS hk hn' hrt => hret E (List.all_eq_true.mp hfE E hE) r_p H' locs' ls' pc' k' n' hRE hS hk hn' hrt
  intro z_p hc r_p H' locs' ls' hN hr hR'
  unfold bx_cut at hc
  obtain ⟨q_p, hq', hc⟩ := List.any_eq_true.mp hc
  rw [Bool.and_eq_true, Bool.and_eq_true] at hc
  obtain ⟨-, hc1, -⟩ := hc
  obtain ⟨g1, g2, g3, g4, g5, g6⟩ := bx_sub_ok hlg hdm hR' hc1
  have := bx_loop hlg hdm hg hn hruns hF hA hH0 hmc hms hd hdl hret _ q_p hq' _ H' locs' ls' rfl g1
  rw [g2, g3, g4, g5]
  exact this
end BXW
