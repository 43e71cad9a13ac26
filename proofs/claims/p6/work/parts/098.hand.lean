/-! THE BOX MACHINE: contracts by hand: runs cut at given states, what holds there by S -/
def bx_qV (a b : rx_V) : Bool := match a, b with
  | .inl none, .inl none => true
  | .inr (k, e), .inr (j, f) => Nat.beq k j && (Nat.beq e.1 f.1 && decide (e.2 = f.2))
  | _, _ => false
def bx_qC (a b : rx_C) : Bool := Nat.beq a.1.2 b.1.2 && (Nat.beq a.1.1.1 b.1.1.1 && (decide (a.1.1.2 = b.1.1.2) && bx_qV a.2 b.2))
def bx_qI (a b : Nat × rx_V) : Bool := Nat.beq a.1 b.1 && bx_qV a.2 b.2
def bx_qF (a b : Nat × rx_E × rx_E) : Bool := Nat.beq a.1 b.1 && (Nat.beq a.2.1.1 b.2.1.1 && (decide (a.2.1.2 = b.2.1.2) && (Nat.beq a.2.2.1 b.2.2.1 && decide (a.2.2.2 = b.2.2.2))))
def bx_qB (a b : Int × Int) : Bool := decide (a.1 = b.1) && decide (a.2 = b.2)
def bx_qL {α : Type} (f : α → α → Bool) : List α → List α → Bool
  | [], [] => true
  | a :: l, b :: m => f a b && bx_qL f l m
  | _, _ => false
def bx_qZ (z y : rx_Z) : Bool := match z, y with
  | (I, F, ht, c, s, pc, lv, st), (I', F', ht', c', s', pc', lv', st') => Nat.beq pc pc' && (Nat.beq c c' && (Nat.beq s s' && (bx_qL bx_qV st st' && (bx_qL bx_qI lv lv' && (bx_qL bx_qB I I' && (bx_qL bx_qF F F' && bx_qL bx_qC ht ht'))))))
theorem bx_qV_ok {a b : rx_V} (h : bx_qV a b = true) : a = b := by
  match a, b, h with
  | .inl none, .inl none, _ => rfl
  | .inl none, .inl (some _), h => exact absurd (show false = true from h) Bool.false_ne_true
  | .inl (some _), .inl _, h => exact absurd (show false = true from h) Bool.false_ne_true
  | .inl none, .inr _, h => exact absurd (show false = true from h) Bool.false_ne_true
  | .inl (some _), .inr _, h => exact absurd (show false = true from h) Bool.false_ne_true
  | .inr _, .inl none, h => exact absurd (show false = true from h) Bool.false_ne_true
  | .inr _, .inl (some _), h => exact absurd (show false = true from h) Bool.false_ne_true
  | .inr (k, e1, e2), .inr (j, f1, f2), h =>
    have h : (Nat.beq k j && (Nat.beq e1 f1 && decide (e2 = f2))) = true := h
    rw [Bool.and_eq_true, Bool.and_eq_true, decide_eq_true_eq] at h
    obtain ⟨h1, h2, h3⟩ := h
    rw [Nat.eq_of_beq_eq_true h1, Nat.eq_of_beq_eq_true h2, h3]
theorem bx_qL_ok {α : Type} {f : α → α → Bool} (hf : ∀ a b, f a b = true → a = b) : ∀ {l m : List α}, bx_qL f l m = true → l = m
  | [], [], _ => rfl
  | [], _ :: _, h => absurd (show false = true from h) Bool.false_ne_true
  | _ :: _, [], h => absurd (show false = true from h) Bool.false_ne_true
  | a :: l, b :: m, h => by
    have h : (f a b && bx_qL f l m) = true := h
    rw [Bool.and_eq_true] at h
    rw [hf a b h.1, bx_qL_ok hf h.2]
theorem bx_qC_ok (a b : rx_C) (h : bx_qC a b = true) : a = b := by
  obtain ⟨⟨⟨a1, a2⟩, a3⟩, a4⟩ := a
  obtain ⟨⟨⟨b1, b2⟩, b3⟩, b4⟩ := b
  have h : (Nat.beq a3 b3 && (Nat.beq a1 b1 && (decide (a2 = b2) && bx_qV a4 b4))) = true := h
  rw [Bool.and_eq_true, Bool.and_eq_true, Bool.and_eq_true, decide_eq_true_eq] at h
  obtain ⟨h1, h2, h3, h4⟩ := h
  rw [Nat.eq_of_beq_eq_true h1, Nat.eq_of_beq_eq_true h2, h3, bx_qV_ok h4]
theorem bx_qI_ok (a b : Nat × rx_V) (h : bx_qI a b = true) : a = b := by
  obtain ⟨a1, a2⟩ := a
  obtain ⟨b1, b2⟩ := b
  have h : (Nat.beq a1 b1 && bx_qV a2 b2) = true := h
  rw [Bool.and_eq_true] at h
  rw [Nat.eq_of_beq_eq_true h.1, bx_qV_ok h.2]
theorem bx_qF_ok (a b : Nat × rx_E × rx_E) (h : bx_qF a b = true) : a = b := by
  obtain ⟨a1, ⟨a2, a3⟩, a4, a5⟩ := a
  obtain ⟨b1, ⟨b2, b3⟩, b4, b5⟩ := b
  have h : (Nat.beq a1 b1 && (Nat.beq a2 b2 && (decide (a3 = b3) && (Nat.beq a4 b4 && decide (a5 = b5))))) = true := h
  rw [Bool.and_eq_true, Bool.and_eq_true, Bool.and_eq_true, Bool.and_eq_true, decide_eq_true_eq, decide_eq_true_eq] at h
  obtain ⟨h1, h2, h3, h4, h5⟩ := h
  rw [Nat.eq_of_beq_eq_true h1, Nat.eq_of_beq_eq_true h2, h3, Nat.eq_of_beq_eq_true h4, h5]
theorem bx_qB_ok (a b : Int × Int) (h : bx_qB a b = true) : a = b := by
  obtain ⟨a1, a2⟩ := a
  obtain ⟨b1, b2⟩ := b
  have h : (decide (a1 = b1) && decide (a2 = b2)) = true := h
  rw [Bool.and_eq_true, decide_eq_true_eq, decide_eq_true_eq] at h
  rw [h.1, h.2]
theorem bx_qZ_ok {z y : rx_Z} (h : bx_qZ z y = true) : z = y := by
  obtain ⟨I, F, ht, c, s, pc, lv, st⟩ := z
  obtain ⟨I', F', ht', c', s', pc', lv', st'⟩ := y
  have h : (Nat.beq pc pc' && (Nat.beq c c' && (Nat.beq s s' && (bx_qL bx_qV st st' && (bx_qL bx_qI lv lv' && (bx_qL bx_qB I I' && (bx_qL bx_qF F F' && bx_qL bx_qC ht ht'))))))) = true := h
  simp only [Bool.and_eq_true] at h
  obtain ⟨h1, h2, h3, h4, h5, h6, h7, h8⟩ := h
  rw [Nat.eq_of_beq_eq_true h1, Nat.eq_of_beq_eq_true h2, Nat.eq_of_beq_eq_true h3, bx_qL_ok (fun a b => bx_qV_ok) h4, bx_qL_ok bx_qI_ok h5, bx_qL_ok bx_qB_ok h6, bx_qL_ok bx_qF_ok h7, bx_qL_ok bx_qC_ok h8]
/-- a state with less bounds and more facts -/
def bx_nar : List (Nat × Int × Int) → rx_I → rx_I
  | [], I => I
  | q :: l, I => bx_nar l (rx_cap I q.1 q.2.1 q.2.2)
def bx_zn (nar : List (Nat × Int × Int)) (nf : rx_F) (z : rx_Z) : rx_Z := match z with
  | (I, F, ht, c, s, pc, lv, st) => (bx_nar nar I, nf ++ F, ht, c, s, pc, lv, st)
theorem bx_nar_ok {r : Nat → Int} : ∀ {l : List (Nat × Int × Int)} {I : rx_I}, rx_sat I r → (∀ q ∈ l, q.2.1 ≤ r q.1 ∧ r q.1 ≤ q.2.2) → rx_sat (bx_nar l I) r ∧ (bx_nar l I).length = I.length
  | [], I, h, _ => ⟨h, rfl⟩
  | q :: l, I, h, hq => by
    obtain ⟨h1, h2⟩ := hq q List.mem_cons_self
    obtain ⟨h3, h4⟩ := bx_nar_ok (l := l) (rx_cap_ok h h1 h2) (fun y hy => hq y (List.mem_cons_of_mem _ hy))
    exact ⟨h3, h4.trans rx_cap_len⟩
/-- where a run is cut: the state; bounds and facts that are known by hand; the symbols of the next state; its number -/
abbrev bx_HO : Type := rx_Z × List (Nat × Int × Int) × rx_F × List rx_E × Nat
abbrev bx_SP : Type := (Nat → Int → Int) → (Nat → Int) → Prop
/-- a state of the table: where its runs are cut; where they end, with bounds known by hand -/
abbrev bx_HE : Type := rx_Z × List bx_HO × List (rx_End × List (Nat × Int × Int))
def bx_cutH (os : List bx_HO) (z_p : rx_Z) : Bool := os.any (fun o => bx_qZ z_p o.1)
def bx_mdH (ms : List (Nat × Nat)) (a b : Nat) : Bool := (Nat.beq a 999999 && Nat.beq b 0) || bx_mdl ms a b
def bx_noE (ht : List rx_C) : Bool := ht.all (fun q => !(bx_isE q))
theorem bx_noE_chain {L : bx_L} {N : Nat} {r : Nat → Int} {S : Nat → Int → Int} : ∀ {ht : List rx_C}, bx_noE ht = true → bx_chain L N r S ht S
  | [], _ => rfl
  | q :: l, h => by
    have h : (!(bx_isE q) && bx_noE l) = true := h
    rw [Bool.and_eq_true, Bool.not_eq_true'] at h
    exact bx_chain_skip (by rw [h.1]; exact Bool.false_ne_true) (bx_noE_chain h.2)
def bx_scF (N : Nat) (f : Nat × rx_E × rx_E) : Bool := decide (f.2.1.1 < N) && (decide (f.2.2.1 < N) && decide (f.1 < 1000000))
section BXT2
variable {s : State} {D : bx_D} {cl : List vw_C} {A : Nat → Prop} {xa : Nat → Nat} {nL : Nat} {H0 H : Heap} {locs : List Loc} {ls : Array Slot} {r : Nat → Int} {ad : Nat → Nat} {σ : List rx_E} {z y : rx_Z}
theorem bx_sub_okS {dmf : Nat → Int → Bool} {S : Nat → Int → Int} (hdm : dmf = D.2.1.2.2.2) (hsat : rx_sat z.1 r) (hFc : rx_facts z.2.1 r) (hfs : rx_fsc z.1.length z.2.1) (hkn : bx_kns D ad xa S z.1.length z.2.2.1 r) (hl : lv_has ls nL (rx_lvs r ad xa (rx_zlv z))) (h : bx_sub dmf σ z y = true) :
    rx_sat y.1 (bx_val σ r) ∧ rx_facts y.2.1 (bx_val σ r) ∧ rx_fsc y.1.length y.2.1 ∧ bx_kns D ad xa S y.1.length y.2.2.1 (bx_val σ r) ∧ lv_has ls nL (rx_lvs (bx_val σ r) ad xa (rx_zlv y)) ∧ (∀ q ∈ rx_zlv y, rx_sc y.1.length y.2.2.1.length q.2) ∧ (∀ v ∈ rx_zst y, rx_sc y.1.length y.2.2.1.length v) ∧ rx_zpc z = rx_zpc y ∧ z.2.2.2.1 = y.2.2.2.1 ∧ z.2.2.2.2.1 = y.2.2.2.2.1 ∧ (rx_zst z).map (rx_iv r ad xa) = (rx_zst y).map (rx_iv (bx_val σ r) ad xa) ∧ σ.length = y.1.length := by
  subst hdm
  unfold bx_sub at h
  simp only [Bool.and_eq_true, decide_eq_true_eq, beq_iff_eq, List.all_eq_true] at h
  obtain ⟨h0, h8, hI, hF, hH, hc, hs, hpc, hlv, hst, hsS⟩ := h
  obtain ⟨i1, i2⟩ := bx_subI_ok hsat hI
  have hz : bx_val σ r 0 = 0 := by
    split at h0
    · show rx_ev r (0, 0) = 0
      exact rx_ev0 hsat 0
    · exact absurd h0 Bool.false_ne_true
  have hsat2 : rx_sat y.1 (bx_val σ r) := ⟨hz, h8, fun n lo hi hn => by
    obtain ⟨e, g1, g2, g3⟩ := i2 n lo hi hn
    unfold bx_val
    rw [g1]
    exact ⟨g2, g3⟩⟩
  have hF0 : ∀ f ∈ y.2.1, rx_fact (bx_val σ r) f ∧ f.2.1.1 < y.1.length ∧ f.2.2.1 < y.1.length ∧ (1000000 ≤ f.1 → (bx_de (f.1 / 1000000)).1 < y.1.length) := fun f hf => by
    have h1 := hF f hf
    unfold bx_subF at h1
    rw [Bool.and_eq_true, Bool.and_eq_true, decide_eq_true_eq, decide_eq_true_eq] at h1
    obtain ⟨k1, k2, k3⟩ := h1
    have ea : rx_ev r (bx_sE σ f.2.1) = rx_ev (bx_val σ r) f.2.1 := bx_sE_ok (by rw [← i1]; exact k1)
    have eb : rx_ev r (bx_sE σ f.2.2) = rx_ev (bx_val σ r) f.2.2 := bx_sE_ok (by rw [← i1]; exact k2)
    obtain ⟨fk, fa, fb⟩ := f
    dsimp only at k1 k2 k3 ea eb
    split at k3
    · rename_i hk
      refine ⟨?_, k1, k2, fun q => absurd q (by show ¬ 1000000 ≤ fk; omega)⟩
      have h2 := bx_ent_ok hsat hFc hfs k3
      rcases (show fk = 0 ∨ fk = 1 by omega) with rfl | rfl
      · have h2 : rx_ev r (bx_sE σ fa) < rx_ev r (bx_sE σ fb) := h2
        rw [ea, eb] at h2
        exact h2
      · have h2 : rx_ev r (bx_sE σ fa) ≤ rx_ev r (bx_sE σ fb) := h2
        rw [ea, eb] at h2
        exact h2
    · rw [Bool.and_eq_true, Bool.and_eq_true, decide_eq_true_eq, decide_eq_true_eq] at k3
      obtain ⟨k3, k4, k5⟩ := k3
      refine ⟨?_, k1, k2, fun q => absurd q (by show ¬ 1000000 ≤ fk; omega)⟩
      obtain ⟨g, hg, k6⟩ := List.any_eq_true.mp k5
      rw [Bool.and_eq_true, Bool.and_eq_true, beq_iff_eq] at k6
      obtain ⟨k6, k7, k8⟩ := k6
      have h2 := hFc g hg
      obtain ⟨gk, ga, gb⟩ := g
      dsimp only at k6 k7 k8
      subst k6
      obtain ⟨j, rfl⟩ : ∃ j, gk = j + 4 := ⟨gk - 4, by omega⟩
      have h2 : if j < 999996 then rx_ev r ga = (j : Int) * rx_ev r gb else rx_ev r ga = rx_ev r gb + rx_ev r (bx_de ((j + 4) / 1000000)) := h2
      rw [if_pos (by omega), bx_eqE_ok hsat k7, bx_eqE_ok hsat k8, ea, eb] at h2
      exact rx_fact_mul (by omega) h2
  have hkn2 : bx_kns D ad xa S y.1.length y.2.2.1 (bx_val σ r) := fun q hq => by
    obtain ⟨g1, g2, g3⟩ := hH q hq
    refine ⟨g1, bx_scV_ok g2, ?_⟩
    have hev : rx_ev r (bx_sE σ q.1.1) = rx_ev (bx_val σ r) q.1.1 := bx_sE_ok (by rw [← i1]; exact g1)
    unfold bx_subH at g3
    unfold bx_kn
    split
    · rename_i hcc
      rw [if_pos hcc] at g3
      rw [← hev]
      simp only [Bool.or_eq_true, Bool.and_eq_true, beq_iff_eq] at g3
      rcases g3 with ⟨k1, k2⟩ | ⟨k1, k2⟩
      · have e1 : rx_ev r (bx_sE σ q.1.1) = (bx_sE σ q.1.1).2 := by
          unfold rx_ev
          rw [k1, hsat.1, Int.zero_add]
        rw [e1]
        exact k2
      · have e1 : rx_ev r (bx_sE σ q.1.1) = r (bx_sE σ q.1.1).1 := by
          unfold rx_ev
          rw [k1, Int.add_zero]
        rw [e1]
        exact (bx_fd_ok hkn k2).1
    · rename_i hcc
      rw [if_neg hcc] at g3
      split at g3
      · rename_i v hck
        obtain ⟨p1, p2, p3⟩ := hkn _ (bx_ck_ok hck)
        unfold bx_kn at p3
        rw [if_neg hcc] at p3
        have p3 : 0 ≤ rx_ev r (bx_sE σ q.1.1) ∧ (rx_ev r (bx_sE σ q.1.1)).toNat < D.2.1.2.1 ∧ ∃ tc : Nat, bx_tcs (D.2.1.1 (rx_ev r (bx_sE σ q.1.1)).toNat) q.1.2 = some tc ∧ rx_iv r ad xa v = bx_fv ad tc (S (rx_ev r (bx_sE σ q.1.1)).toNat (q.1.2 : Int)) := p3
        rw [hev] at p3
        obtain ⟨a1, a2, tc, a4, a5⟩ := p3
        refine ⟨a1, a2, tc, a4, ?_⟩
        rw [← a5]
        exact (bx_eqV_ok hsat (by rw [← i1]; exact g2) g3).symm
      · exact absurd g3 Bool.false_ne_true
  refine ⟨hsat2, fun f hf => ?_, fun f hf => ?_, hkn2, ?_, fun q hq => bx_scV_ok (hlv q hq).1, fun v hv => bx_scV_ok (hst v hv), hpc, hc, hs, ?_, i1.symm⟩
  · exact (hF0 f hf).1
  · exact (hF0 f hf).2
  · refine ⟨hl.1, hl.2.1, fun q hq => ?_⟩
    obtain ⟨q0, hq0, rfl⟩ := List.mem_map.mp hq
    obtain ⟨g1, g2⟩ := hlv q0 hq0
    split at g2
    · rename_i v hv
      have := rx_lv_get hl hv
      rw [bx_eqV_ok hsat (by rw [← i1]; exact g1) g2] at this
      exact this
    · exact absurd g2 Bool.false_ne_true
  · exact bx_subS_ok hsat (List.all_eq_true.mpr fun v hv => by rw [← i1]; exact hst v hv) hsS
end BXT2
section BXHL
variable {B : bx_B} {G NW : List Jvm.Cond} {AO : List String} {cl : List vw_C} {T : rx_Tb} {nm : Nat → String} {xh : rx_Xh} {l : Launch} {Dg : va_G} {L : bx_L} {A : Nat → Prop} {xa : Nat → Nat} {PX : State → Prop} {X : (Nat → Int → Int) → Prop}
variable {p : Program} {e : Env} {R : Room} {s : State} {m : MethodId} {args : Array Value} {below : List Frame} {meth : Method} {c : Code} {Q : State → Prop} {H0 : Heap} {ad : Nat → Nat}
/-- what a piece of a run has: from S0 (with symbols r) to S (with symbols r_p), by its events -/
def bx_Seg (L : bx_L) (z : rx_Z) (I : rx_I) (F : rx_F) (ht : List rx_C) (S0 S : Nat → Int → Int) (r r_p : Nat → Int) : Prop :=
  bx_Inv L S0 ∧ bx_Inv L S ∧ rx_sat z.1 r ∧ rx_same z.1.length r r_p ∧ rx_sat I r_p ∧ rx_facts F r_p ∧ bx_chain L I.length r_p S0 ht S
/-- by hand, at a cut -/
def bx_obC (L : bx_L) (X : (Nat → Int → Int) → Prop) (Sin : Nat → Int → Int) (ms : List (Nat × Nat)) (inv : Nat → bx_SP) (mea : Nat → (Nat → Int → Int) → (Nat → Int) → Nat) (i : Nat) (z : rx_Z) (o : bx_HO) : Prop :=
  ∀ (S0 S : Nat → Int → Int) (r r_p : Nat → Int), inv i S0 r → X S0 → bx_same L (bx_mdl ms) Sin S0 → bx_same L (bx_mdl ms) S0 S → bx_Seg L z o.1.1 o.1.2.1 o.1.2.2.1 S0 S r r_p →
    (∀ b ∈ o.2.1, b.2.1 ≤ r_p b.1 ∧ r_p b.1 ≤ b.2.2) ∧ (∀ f ∈ o.2.2.1, rx_fact r_p f) ∧ inv o.2.2.2.2 S (bx_val o.2.2.2.1 r_p) ∧ mea o.2.2.2.2 S (bx_val o.2.2.2.1 r_p) < mea i S0 r
/-- by hand, at an end -/
def bx_obE (L : bx_L) (X : (Nat → Int → Int) → Prop) (Sin : Nat → Int → Int) (ms : List (Nat × Nat)) (inv : Nat → bx_SP) (PS : (Nat → Int → Int) → Option Int → Prop) (i : Nat) (z : rx_Z) (E : rx_End × List (Nat × Int × Int)) : Prop :=
  ∀ (S0 S : Nat → Int → Int) (r r_p : Nat → Int), inv i S0 r → X S0 → bx_same L (bx_mdl ms) Sin S0 → bx_same L (bx_mdl ms) S0 S → bx_Seg L z E.1.1 E.1.2.1 E.1.2.2.1 S0 S r r_p → (∀ b ∈ E.2, b.2.1 ≤ r_p b.1 ∧ r_p b.1 ≤ b.2.2) ∧ PS S (E.1.2.2.2.map (bx_num r_p))
def bx_en1 (nar : List (Nat × Int × Int)) (E : rx_End) : rx_End := match E with
  | (I, F, ht, v) => (bx_nar nar I, F, ht, v)
def bx_qO (a b : Option rx_V) : Bool := match a, b with
  | none, none => true
  | some x, some y => bx_qV x y
  | _, _ => false
def bx_qE (a b : rx_End) : Bool := bx_qO a.2.2.2 b.2.2.2 && (bx_qL bx_qB a.1 b.1 && (bx_qL bx_qF a.2.1 b.2.1 && bx_qL bx_qC a.2.2.1 b.2.2.1))
theorem bx_qE_ok {a b : rx_End} (h : bx_qE a b = true) : a = b := by
  obtain ⟨a1, a2, a3, a4⟩ := a
  obtain ⟨b1, b2, b3, b4⟩ := b
  have h : (bx_qO a4 b4 && (bx_qL bx_qB a1 b1 && (bx_qL bx_qF a2 b2 && bx_qL bx_qC a3 b3))) = true := h
  simp only [Bool.and_eq_true] at h
  obtain ⟨h1, h2, h3, h4⟩ := h
  have e4 : a4 = b4 := by
    unfold bx_qO at h1
    split at h1
    · rfl
    · rw [bx_qV_ok h1]
    · exact absurd h1 Bool.false_ne_true
  rw [bx_qL_ok bx_qB_ok h2, bx_qL_ok bx_qF_ok h3, bx_qL_ok bx_qC_ok h4, e4]
/-- what is computed of a state of the table -/
def bx_okH (dmf : Nat → Int → Bool) (ret : Option (Nat × bx_T)) (tab : List bx_HE) (q : bx_HE) (run : (rx_Z → Bool) → rx_Z → Option (List rx_End)) : Bool :=
  bx_noE q.1.2.2.1 && (q.2.1.all (fun o => o.2.2.1.all (bx_scF o.1.1.length) && (match tab[o.2.2.2.2]? with
    | some q_p => bx_sub dmf o.2.2.2.1 (bx_zn o.2.1 o.2.2.1 o.1) q_p.1
    | none => false)) && (match run (bx_cutH q.2.1) q.1 with
    | some Es => Es.all (fun E => q.2.2.any (fun E' => bx_qE E E'.1 && bx_fE dmf ret (bx_en1 E'.2 E'.1)))
    | none => false))
/-- where runs end, all is done -/
def bx_RetH (p : Program) (l : Launch) (e : Env) (R : Room) (s : State) (m : MethodId) (args : Array Value) (below : List Frame) (meth : Method) (c : Code) (Q : State → Prop) (Dg : va_G) (L : bx_L) (X : (Nat → Int → Int) → Prop) (cl : List vw_C) (A : Nat → Prop) (xa : Nat → Nat) (H0 : Heap) (ad : Nat → Nat) (M : rx_Mt) (dmf : Nat → Int → Bool) (ret : Option (Nat × bx_T)) (Sin : Nat → Int → Int) (ms : List (Nat × Nat)) (PS : (Nat → Int → Int) → Option Int → Prop) : Prop :=
  ∀ (E : rx_End) (S : Nat → Int → Int) (r_p : Nat → Int) (H' : Heap) (locs' : List Loc) (ls' : Array Slot) (pc' k' n' : Nat), bx_fE dmf ret E = true → rx_sat E.1 r_p → bx_kns (Dg, L, Sin, bx_mdH ms) ad xa S E.1.length E.2.2.1 r_p → bx_W0 (Dg, L, Sin, bx_mdH ms) cl A s ad S H' → bx_same L (bx_mdl ms) Sin S → PS S (E.2.2.2.map (bx_num r_p)) → va_S A H0 H' locs' → k' ≤ M.2.2.2.2.2.2.1 → n' ≤ M.2.2.2.2.2.2.2 → rx_rti M pc' r_p ad xa E.2.2.2 →
    W p l e R s m args below meth c H' locs' k' n' Q (F0 m pc' ls' (E.2.2.2.toList.map (rx_iv r_p ad xa)))
theorem bx_mdH_same {ms : List (Nat × Nat)} {S S_p : Nat → Int → Int} (hcl : ∀ p i : Nat, (bx_mc (L.1 p) i).1 ≠ 999999) (h : bx_same L (bx_mdH ms) S S_p) : bx_same L (bx_mdl ms) S S_p := fun p i hp hi hm => h p i hp hi (by
  unfold bx_mdH
  rw [hm, Bool.or_false, Bool.and_eq_false_iff]
  exact Or.inl (by
    refine Bool.eq_false_iff.mpr fun h2 => ?_
    exact hcl p i (Nat.eq_of_beq_eq_true h2)))
theorem bx_same_tr {md : Nat → Nat → Bool} {S1 S2 S3 : Nat → Int → Int} (h1 : bx_same L md S1 S2) (h2 : bx_same L md S2 S3) : bx_same L md S1 S3 := fun p i hp hi hm => (h2 p i hp hi hm).trans (h1 p i hp hi hm)
/-- from a state of the table a run leads on, or to the end -/
def bx_Step (p : Program) (l : Launch) (e : Env) (R : Room) (s : State) (m : MethodId) (args : Array Value) (below : List Frame) (meth : Method) (c : Code) (Q : State → Prop) (Dg : va_G) (L : bx_L) (X : (Nat → Int → Int) → Prop) (cl : List vw_C) (A : Nat → Prop) (xa : Nat → Nat) (H0 : Heap) (ad : Nat → Nat) (M : rx_Mt) (tab : List bx_HE) (inv : Nat → bx_SP) (mea : Nat → (Nat → Int → Int) → (Nat → Int) → Nat) (Sin : Nat → Int → Int) (ms : List (Nat × Nat)) (i : Nat) (q : bx_HE) : Prop :=
  ∀ (S : Nat → Int → Int) (r : Nat → Int) (H : Heap) (locs : List Loc) (ls : Array Slot), inv i S r → X S → bx_same L (bx_mdl ms) Sin S → rx_R (Dg, L, S, bx_mdH ms) cl A s xa M.2.2.1 H0 q.1 r ad H locs ls →
    (∀ (i_p : Nat) (q_p : bx_HE) (S_p : Nat → Int → Int) (r_p : Nat → Int) (H' : Heap) (locs' : List Loc) (ls' : Array Slot), tab[i_p]? = some q_p → inv i_p S_p r_p → mea i_p S_p r_p < mea i S r → X S_p → bx_same L (bx_mdl ms) Sin S_p → rx_R (Dg, L, S_p, bx_mdH ms) cl A s xa M.2.2.1 H0 q_p.1 r_p ad H' locs' ls' →
      W p l e R s m args below meth c H' locs' q_p.1.2.2.2.1 q_p.1.2.2.2.2.1 Q (F0 m (rx_zpc q_p.1) ls' ((rx_zst q_p.1).map (rx_iv r_p ad xa)))) →
    W p l e R s m args below meth c H locs q.1.2.2.2.1 q.1.2.2.2.2.1 Q (F0 m (rx_zpc q.1) ls ((rx_zst q.1).map (rx_iv r ad xa)))
theorem bx_loopS {M : rx_Mt} {tab : List bx_HE} {inv : Nat → bx_SP} {mea : Nat → (Nat → Int → Int) → (Nat → Int) → Nat} {Sin : Nat → Int → Int} {ms : List (Nat × Nat)}
    (hst : ∀ (i : Nat) (q : bx_HE), tab[i]? = some q → bx_Step p l e R s m args below meth c Q Dg L X cl A xa H0 ad M tab inv mea Sin ms i q) :
    ∀ (n i : Nat) (q : bx_HE), tab[i]? = some q → ∀ (S : Nat → Int → Int) (r : Nat → Int) (H : Heap) (locs : List Loc) (ls : Array Slot), mea i S r = n → inv i S r → X S → bx_same L (bx_mdl ms) Sin S → rx_R (Dg, L, S, bx_mdH ms) cl A s xa M.2.2.1 H0 q.1 r ad H locs ls →
      W p l e R s m args below meth c H locs q.1.2.2.2.1 q.1.2.2.2.2.1 Q (F0 m (rx_zpc q.1) ls ((rx_zst q.1).map (rx_iv r ad xa))) := by
  intro n
  induction n using Nat.strongRecOn with
  | _ n ih =>
    intro i q hq S r H locs ls hen hinv hXS hsin hR
    refine hst i q hq S r H locs ls hinv hXS hsin hR fun i_p q_p S_p r_p H' locs' ls' h1 h2 h3 h4 h5 h6 => ?_
    exact ih _ (by rw [← hen]; exact h3) i_p q_p h1 S_p r_p H' locs' ls' rfl h2 h4 h5 h6
theorem bx_runStep {dmf : Nat → Int → Bool} {f d : Nat} {M : rx_Mt} {ret : Option (Nat × bx_T)} {tab : List bx_HE} {inv : Nat → bx_SP} {mea : Nat → (Nat → Int → Int) → (Nat → Int) → Nat} {Sin : Nat → Int → Int} {ms : List (Nat × Nat)} {PS : (Nat → Int → Int) → Option Int → Prop}
    (hcl : ∀ p i : Nat, (bx_mc (L.1 p) i).1 ≠ 999999) (hdm : dmf = L.2.2.2) (hX : ∀ S S_p : Nat → Int → Int, X S → bx_same L (bx_mdl ms) S S_p → X S_p)
    (hg : ∀ (S : Nat → Int → Int), X S → ∀ cut, rx_Goal f d cut B xh T G NW AO cl nm A xa PX l (Dg, L, S, bx_mdH ms) ad) (hn : nm M.1 = M.2.2.2.2.1.cls)
    {i : Nat} {q : bx_HE} (hnoA : ∀ q ∈ tab, bx_noE q.1.2.2.1 = true) (hok : bx_okH dmf ret tab q (fun cut z => rx_exec B xh T cut f d M z) = true)
    (hC : ∀ o ∈ q.2.1, bx_obC L X Sin ms inv mea i q.1 o) (hE : ∀ E ∈ q.2.2, bx_obE L X Sin ms inv PS i q.1 E)
    (hF : rx_Fr G NW AO PX p s m args meth c M) (hA : ∀ q, H0.size ≤ q → A q) (hH0 : H0 = s.heap) (hmc : M.2.2.2.2.2.2.1 ≤ R.cells) (hms : M.2.2.2.2.2.2.2 ≤ R.slots) (hd : d ≤ R.frames) (hdl : d * 40 ≤ R.locals)
    (hret : bx_RetH p l e R s m args below meth c Q Dg L X cl A xa H0 ad M dmf ret Sin ms PS) : bx_Step p l e R s m args below meth c Q Dg L X cl A xa H0 ad M tab inv mea Sin ms i q := by
  intro S r H locs ls hinv hXS hsin hR K
  have hlg : bx_lg (bx_mdH ms) = true := rfl
  have hk := hok
  unfold bx_okH at hk
  rw [Bool.and_eq_true, Bool.and_eq_true] at hk
  obtain ⟨hnoE, houts, hrun⟩ := hk
  split at hrun
  case h_2 => exact absurd hrun Bool.false_ne_true
  rename_i Es hex
  obtain ⟨Sq, ⟨ws0, tys0, hInv0, hrest0⟩, -, ⟨-, hch0⟩, -⟩ := id hR.2.2.2.1
  have eSq : Sq = S := by
    have h1 := hch0 hlg
    have h2 : ∀ (ht : List rx_C) (S_p : Nat → Int → Int), bx_noE ht = true → bx_chain L q.1.1.length r S ht S_p → S_p = S := by
      intro ht
      induction ht with
      | nil => exact fun S_p _ h => h
      | cons a t iht =>
        intro S_p hne hc
        have hne : (!(bx_isE a) && bx_noE t) = true := hne
        rw [Bool.and_eq_true, Bool.not_eq_true'] at hne
        rcases bx_chain_cases hc with ⟨-, h3⟩ | ⟨h3, -⟩
        · exact iht S_p hne.2 h3
        · rw [hne.1] at h3
          exact absurd h3 Bool.false_ne_true
    exact h2 _ _ hnoE h1
  rw [eSq] at hInv0
  have hInv0 : bx_Inv L S := hInv0
  refine hg S hXS _ M q.1 Es hex hn (N0 := q.1.1.length) (r0 := r) hF hA hH0 hmc hms hd hdl (Nat.le_refl _) rx_same.rf ?_ hR ?_
  · intro z_p hcut r_p H' locs' ls' hN hr hR'
    obtain ⟨⟨⟨zI, zF, zh, zc, zs, zp, zl, zt⟩, onar, onf, oσ, oi⟩, ho, hz⟩ := List.any_eq_true.mp hcut
    have hz := bx_qZ_ok hz
    subst hz
    obtain ⟨S_p, hW', hS', ⟨hsm', hch'⟩, hkn'⟩ := id hR'.2.2.2.1
    have hInv' : bx_Inv L S_p := by
      obtain ⟨ws, tys, hI, -⟩ := hW'
      exact hI
    have hsame : bx_same L (bx_mdl ms) S S_p := bx_mdH_same hcl hsm'
    obtain ⟨b1, b2, b3, b4⟩ := hC _ ho S S_p r r_p hinv hXS hsin hsame ⟨hInv0, hInv', hR.1, hr, hR'.1, hR'.2.1, hch' hlg⟩
    have ho2 := List.all_eq_true.mp houts _ ho
    rw [Bool.and_eq_true] at ho2
    obtain ⟨hsf, hsub⟩ := ho2
    split at hsub
    case h_2 => exact absurd hsub Bool.false_ne_true
    rename_i q_p hq'
    obtain ⟨n1, n2⟩ := bx_nar_ok hR'.1 b1
    have := bx_sub_okS (D := (Dg, L, S_p, bx_mdH ms)) (xa := xa) (nL := M.2.2.1) (ls := ls') (r := r_p) (ad := ad) (S := S_p) hdm (z := bx_zn onar onf (zI, zF, zh, zc, zs, zp, zl, zt)) (y := q_p.1) n1 (fun f hf => by
      rcases List.mem_append.mp hf with h | h
      · exact b2 f h
      · exact hR'.2.1 f h) (fun f hf => by
      show f.2.1.1 < (bx_nar onar zI).length ∧ f.2.2.1 < (bx_nar onar zI).length ∧ (1000000 ≤ f.1 → (bx_de (f.1 / 1000000)).1 < (bx_nar onar zI).length)
      rw [n2]
      rcases List.mem_append.mp hf with h | h
      · have h5 := List.all_eq_true.mp hsf f h
        unfold bx_scF at h5
        rw [Bool.and_eq_true, Bool.and_eq_true, decide_eq_true_eq, decide_eq_true_eq, decide_eq_true_eq] at h5
        exact ⟨h5.1, h5.2.1, fun q => absurd q (by omega)⟩
      · exact hR'.2.2.1 f h) (by
      show bx_kns _ ad xa S_p (bx_nar onar zI).length zh r_p
      rw [n2]
      exact hkn') (show lv_has ls' M.2.2.1 (rx_lvs r_p ad xa zl) from rx_lvh hR') hsub
    obtain ⟨g1, g2, g3, g4, g5, g6, g7, g8, g9, g10, g11, g12⟩ := this
    have := K oi q_p S_p (bx_val oσ r_p) H' locs' ls' hq' b3 b4 (hX S S_p hXS hsame) (bx_same_tr hsin hsame) ⟨g1, g2, g3, ⟨S_p, bx_W0_md hW', hS', ⟨fun _ _ _ _ _ => rfl, fun _ => bx_noE_chain (hnoA q_p (List.mem_of_getElem? hq'))⟩, g4⟩, g5, g6, g7⟩
    have e8 : zp = rx_zpc q_p.1 := g8
    have e9 : zc = q_p.1.2.2.2.1 := g9
    have e10 : zs = q_p.1.2.2.2.2.1 := g10
    have e11 : zt.map (rx_iv r_p ad xa) = _ := g11
    show W p l e R s m args below meth c H' locs' zc zs Q (F0 m zp ls' (zt.map (rx_iv r_p ad xa)))
    rw [e8, e9, e10, e11]
    exact this
  · intro E hEm r_p H' locs' ls' pc' k' n' hN hr hRE hS hk2 hn2 hrt
    have h7 := List.all_eq_true.mp hrun E hEm
    obtain ⟨E', hE', h8⟩ := List.any_eq_true.mp h7
    rw [Bool.and_eq_true] at h8
    have e0 := bx_qE_ok h8.1
    subst e0
    obtain ⟨b1, b2, b3, ⟨S_p, hW', ⟨hsm', hch'⟩, hkn'⟩, b5⟩ := hRE
    have hInv' : bx_Inv L S_p := by
      obtain ⟨ws, tys, hI, -⟩ := hW'
      exact hI
    have hsame : bx_same L (bx_mdl ms) S S_p := bx_mdH_same hcl hsm'
    obtain ⟨o1, o2⟩ := hE E' hE' S S_p r r_p hinv hXS hsin hsame ⟨hInv0, hInv', hR.1, hr, b1, b2, hch' hlg⟩
    obtain ⟨n1, n2⟩ := bx_nar_ok b1 o1
    have hf := h8.2
    obtain ⟨⟨eI, eF, eh, ev⟩, enar⟩ := E'
    refine hret (bx_en1 enar (eI, eF, eh, ev)) S_p r_p H' locs' ls' pc' k' n' hf n1 ?_ (bx_W0_md hW') (bx_same_tr hsin hsame) o2 hS hk2 hn2 hrt
    show bx_kns _ ad xa S_p (bx_nar enar eI).length eh r_p
    rw [n2]
    exact hkn'
/-- what is given, as numbers -/
def bx_argIs (L : bx_L) : List (Nat × bx_T) → List Int → Prop
  | [], ws => ws = []
  | a :: as, ws => ∃ (w : Int) (wt : List Int), ws = w :: wt ∧ bx_okR L 0 a.2 w ∧ bx_argIs L as wt
def bx_avs (ad : Nat → Nat) : List (Nat × bx_T) → List Int → List Value
  | a :: as, w :: ws => bx_fv ad a.1 w :: bx_avs ad as ws
  | _, _ => []
theorem bx_argOK_is : ∀ {args : List (Nat × bx_T)} {vs : List Value}, bx_argOK L ad args vs → ∃ ws, bx_argIs L args ws ∧ vs = bx_avs ad args ws
  | [], vs, h => by
    have h : vs = [] := h
    exact ⟨[], rfl, h⟩
  | a :: args, vs, h => by
    obtain ⟨w, vt, h1, h2, h3⟩ := h
    obtain ⟨ws, h4, h5⟩ := bx_argOK_is h3
    exact ⟨w :: ws, ⟨w, ws, rfl, h2, h4⟩, by rw [h1, h5]; rfl⟩
theorem bx_args_okN {D : bx_D} {V : bx_V} {np : Nat} {S : Nat → Int → Int} (hV : bx_VOK D.2.1 V) (hnp : np = D.2.1.2.1) : ∀ {args : List (Nat × bx_T)} {ws : List Int} {I I2 : rx_I} {ht ht2 : List rx_C} {as : List rx_V} {r : Nat → Int}, bx_argIs D.2.1 args ws → rx_sat I r → bx_kns D ad xa S I.length ht r → bx_ent0 np args I ht = some (I2, ht2, as) →
    ∃ r_p : Nat → Int, rx_same I.length r r_p ∧ rx_sat I2 r_p ∧ I.length ≤ I2.length ∧ bx_kns D ad xa S I2.length ht2 r_p ∧ as.map (rx_iv r_p ad xa) = bx_avs ad args ws ∧ as.map (bx_num r_p) = ws ∧ ∀ v ∈ as, rx_sc I2.length 0 v
  | [], ws, I, I2, ht, ht2, as, r, ha, hs, hk, h => by
    have ha : ws = [] := ha
    rw [bx_ent0] at h
    cases h
    subst ha
    exact ⟨r, rx_same.rf, hs, Nat.le_refl _, hk, rfl, rfl, fun v hv => absurd hv List.not_mem_nil⟩
  | a :: args, ws, I, I2, ht, ht2, as, r, ha, hs, hk, h => by
    obtain ⟨w, wt, hws, hok, hrest⟩ := ha
    subst hws
    rw [bx_ent0] at h
    split at h
    · cases h
    · rename_i q hq
      split at h
      · cases h
      · rename_i q2 hq2
        cases h
        obtain ⟨Iq, hq', vq⟩ := q
        obtain ⟨I3, ht3, as3⟩ := q2
        obtain ⟨r1, a1, a2, a3, a4, a5, a6, a7, -⟩ := bx_nv_ok (w := w) hV hnp hs (rx_pos hs) hk hq (by rw [hs.1]; exact hok)
        obtain ⟨r2, b1, b2, b3, b4, b5, b7, b6⟩ := bx_args_okN hV hnp hrest a2 a5 hq2
        refine ⟨r2, a1.tr b1 a3, b2, Nat.le_trans a3 b3, b4, ?_, ?_, fun v hv => ?_⟩
        · rw [List.map_cons, b5, rx_iv_ext (M := 0) (ad' := ad) a4 b1 rx_sameA.rf, a6]
          rfl
        · rw [List.map_cons, b7, bx_num_ext a4 b1, a7]
        · rcases List.mem_cons.mp hv with h | h
          · subst h
            exact rx_sc.mono a4 b3 trivial
          · exact b6 v h
/-- a contract with what is asked of S, and what comes of it -/
def bx_PostP (Dg : va_G) (L : bx_L) (X : (Nat → Int → Int) → Prop) (cl : List vw_C) (A : Nat → Prop) (ad : Nat → Nat) (S0 : Nat → Int → Int) (ret : Option (Nat × bx_T)) (ms : List (Nat × Nat)) (PS : (Nat → Int → Int) → Option Int → Prop) : Array Value → State → Outcome → State → Prop := fun _ st oc t =>
  (∃ (S_p : Nat → Int → Int) (rv : Option Value), oc = .returned rv ∧ bx_retOK L ad ret rv ∧ bx_W0 (Dg, L, S0, fun _ _ => false) cl A t ad S_p t.heap ∧ bx_same L (bx_mdl ms) S0 S_p ∧ X S_p ∧ ∃ w : Option Int, PS S_p w ∧ ∀ a, ret = some a → ∃ x, w = some x ∧ rv = some (bx_fv ad a.1 x) ∧ bx_okR L 0 a.2 x) ∧ va_F A st t
def bx_ConP (G NW : List Jvm.Cond) (AO : List String) (PX : State → Prop) (Dg : va_G) (L : bx_L) (X : (Nat → Int → Int) → Prop) (cl : List vw_C) (A : Nat → Prop) (ad : Nat → Nat) (l : Launch) (M : rx_Mt) (ct : bx_Ct) (P : (Nat → Int → Int) → List Int → Prop) (PS : (Nat → Int → Int) → List Int → (Nat → Int → Int) → Option Int → Prop) : Prop :=
  ∀ (S0 : Nat → Int → Int) (ws : List Int), X S0 → bx_argIs L ct.1 ws → bx_preOK L ad S0 ct.2.2.2.2 → P S0 ws → ∀ Qc : Array Value → State → Outcome → State → Prop, (∀ x st oc t, bx_PostP Dg L X cl A ad S0 ct.2.1 ct.2.2.1 (PS S0 ws) x st oc t → Qc x st oc t) →
    Met l M.2.2.2.2.1 (Jvm.Cond.code M.2.2.2.2.1 M.2.1 M.2.2.1 M.2.2.2.1 :: G) { frames := ct.2.2.2.1, cells := M.2.2.2.2.2.2.1, slots := M.2.2.2.2.2.2.2, locals := ct.2.2.2.1 * 40 } (va_Pc (bx_avs ad ct.1 ws) (bx_PreC NW AO PX Dg L cl A ad S0)) Qc M.2.2.2.2.2.2.1 M.2.2.2.2.2.2.2 A
/-- what is computed of a contract by hand -/
def bx_chkH (B : bx_B) (M : rx_Mt) (ct : bx_Ct) (tab : List bx_HE) (run : (bx_HE → Bool) × ((rx_Z → Bool) → rx_Z → Option (List rx_End))) : Bool := match bx_ent0 B.2.1 ct.1 bx_I0 [] with
  | some (I0, ht0, as) => match bx_ent1 B ct.2.2.2.2 I0 ht0 with
    | some (I, ht) => decide (rx_cats as ≤ M.2.2.1) && ((match tab[0]? with
      | some q => bx_qZ q.1 (I, [], ht, 0, 0, 0, rx_largs 0 as, [])
      | none => false) && tab.all (fun q => bx_noE q.1.2.2.1 && (run.1 q || bx_okH B.2.2.1 ct.2.1 tab q run.2)))
    | none => false
  | none => false
theorem bx_conH {f j : Nat} {M : rx_Mt} {ct : bx_Ct} {tab : List bx_HE} {P : (Nat → Int → Int) → List Int → Prop} {PS : (Nat → Int → Int) → List Int → (Nat → Int → Int) → Option Int → Prop} (hGG : ∀ w ∈ G, goodWord w = true) (hPX : rx_PXOK NW A PX) (t1 : rx_frOK G NW cl nm T) (t4 : rx_kcOK G nm T) (tm : rx_mlOK G nm T) (tc : rx_cjOK G NW cl nm T) (hV : bx_VOK L B.1) (hnp : B.2.1 = L.2.1) (hdm : B.2.2.1 = L.2.2.2) (hmd : B.2.2.2 = bx_mdH ct.2.2.1)
    (hcl : ∀ p i : Nat, (bx_mc (L.1 p) i).1 ≠ 999999) (hX : ∀ S S_p : Nat → Int → Int, X S → bx_same L (bx_mdl ct.2.2.1) S S_p → X S_p)
    (hxh : ∀ S0, X S0 → rx_xhOK xh G NW AO cl nm A xa PX l (Dg, L, S0, bx_mdH ct.2.2.1) ad ct.2.2.2.1) (hj : T.2.2.2.2.2 j = some M) {us : bx_HE → Bool} (hc : bx_chkH B M ct tab (us, fun cut z => rx_exec B xh T cut f ct.2.2.2.1 M z) = true)
    (inv : (Nat → Int → Int) → List Int → Nat → bx_SP) (mea : Nat → (Nat → Int → Int) → (Nat → Int) → Nat)
    (h0 : ∀ (S0 : Nat → Int → Int) (ws : List Int) (r : Nat → Int) (I0 I : rx_I) (ht0 ht : List rx_C) (as : List rx_V), bx_ent0 B.2.1 ct.1 bx_I0 [] = some (I0, ht0, as) → bx_ent1 B ct.2.2.2.2 I0 ht0 = some (I, ht) → X S0 → bx_Inv L S0 → P S0 ws → rx_sat I r → as.map (bx_num r) = ws → inv S0 ws 0 S0 r)
    (hU : ∀ (S0 : Nat → Int → Int) (ws : List Int), P S0 ws → ∀ (i : Nat) (q : bx_HE), tab[i]? = some q → us q = true → ∀ {p : Program} {e : Env} {R : Room} {s : State} {m : MethodId} {args : Array Value} {below : List Frame} {meth : Method} {c : Code} {Q : State → Prop} {H0 : Heap}, rx_Fr G NW AO PX p s m args meth c M → (∀ q, H0.size ≤ q → A q) → H0 = s.heap → M.2.2.2.2.2.2.1 ≤ R.cells → M.2.2.2.2.2.2.2 ≤ R.slots → ct.2.2.2.1 ≤ R.frames → ct.2.2.2.1 * 40 ≤ R.locals → bx_Step p l e R s m args below meth c Q Dg L X cl A xa H0 ad M tab (inv S0 ws) mea S0 ct.2.2.1 i q)
    (hC : ∀ (S0 : Nat → Int → Int) (ws : List Int), P S0 ws → ∀ (i : Nat) (q : bx_HE), tab[i]? = some q → us q = false → ∀ o ∈ q.2.1, bx_obC L X S0 ct.2.2.1 (inv S0 ws) mea i q.1 o)
    (hE : ∀ (S0 : Nat → Int → Int) (ws : List Int), P S0 ws → ∀ (i : Nat) (q : bx_HE), tab[i]? = some q → us q = false → ∀ E ∈ q.2.2, bx_obE L X S0 ct.2.2.1 (inv S0 ws) (PS S0 ws) i q.1 E) : bx_ConP G NW AO PX Dg L X cl A ad l M ct P PS := by
  intro S0 ws hX0 hvs hpr hP Qc hQc
  obtain ⟨m1, m2, m3, m4, m5, m6⟩ := tm j M hj
  unfold bx_chkH at hc
  split at hc
  · rename_i I0 ht0 as hent
    split at hc
    case h_2 => exact absurd hc Bool.false_ne_true
    rename_i I ht hen1
    rw [Bool.and_eq_true, Bool.and_eq_true, decide_eq_true_eq] at hc
    obtain ⟨hcats, hq0, hall⟩ := hc
    split at hq0
    case h_2 => exact absurd hq0 Bool.false_ne_true
    rename_i q0 hq0t
    have hq0 := bx_qZ_ok hq0
    refine Met.ofW (cc := M.2.1) (maxL := M.2.2.1) (ret := M.2.2.2.1) m3 rfl ?_
    intro p e s m args below meth c s₁ B0 hml hv
    obtain ⟨hargs, hnw, hao, hpx, hW0, hA⟩ := hv
    subst hargs
    have hx := B0.exec
    have hb := B0.bytes
    have hr := B0.returns
    have hts0 := atoms_spec (ws := Jvm.Cond.code M.2.2.2.2.1 M.2.1 M.2.2.1 M.2.2.2.1 :: G) B0.pre
    have hts : ∀ w ∈ G, w.before (bx_avs ad ct.1 ws).toArray s = true := fun w hw => hts0 w (List.mem_cons_of_mem _ hw)
    have hown : s.vm.findClass M.2.2.2.2.1.cls = some m.cls := findClass_of_methodNamed B0.named
    have hlocks := B0.notSynchronized
    have hname : meth.name = M.2.2.2.2.1.name := (name_of_methodNamed B0.named B0.method).1
    have hF : rx_Fr G NW AO PX p s m (bx_avs ad ct.1 ws).toArray meth c M := ⟨hx, hb, hr, hml, hown, hlocks, hts, hnw, hao, hpx, fun hi => hname.trans (m6 hi)⟩
    obtain ⟨r0, -, a20, a30, a40, a50, a70, a60⟩ := bx_args_okN (D := (Dg, L, S0, bx_mdH ct.2.2.1)) (ad := ad) (xa := xa) (S := S0) hV hnp hvs bx_I0_sat (fun q hq => absurd hq List.not_mem_nil) hent
    obtain ⟨r, b1, a2, b3, a4⟩ := bx_pre_ok (D := (Dg, L, S0, bx_mdH ct.2.2.1)) (ad := ad) (xa := xa) (S := S0) hV hnp hpr a20 a40 hen1
    have a5 : as.map (rx_iv r ad xa) = bx_avs ad ct.1 ws := by
      rw [rx_st_ext (M := 0) (fun v hv => a60 v hv) b1 rx_sameA.rf, a50]
    have a7 : as.map (bx_num r) = ws := by
      rw [← a70]
      exact List.map_congr_left fun v hv => bx_num_ext (a60 v hv) b1
    have a6 : ∀ v ∈ as, rx_sc I.length 0 v := fun v hv => rx_sc.mono (a60 v hv) b3 trivial
    have hl := lv_entry (bx_avs ad ct.1 ws) (n := M.2.2.1) (by rw [← a5, rx_cats_sl]; exact hcats)
    rw [lg_entry_eq]
    generalize (lg_sl (bx_avs ad ct.1 ws) ++ List.replicate (M.2.2.1 - (lg_sl (bx_avs ad ct.1 ws)).length) Slot.unset).toArray = ls at hl ⊢
    rw [← a5, ← rx_largs_lv] at hl
    have hInv0 : bx_Inv L S0 := by
      obtain ⟨ws', tys, hI, -⟩ := hW0
      exact hI
    have hnoA : ∀ q ∈ tab, bx_noE q.1.2.2.1 = true := fun q hq => by
      have h6 := List.all_eq_true.mp hall q hq
      rw [Bool.and_eq_true] at h6
      exact h6.1
    have hne : bx_noE ht = true := by
      have h6 := hnoA q0 (List.mem_of_getElem? hq0t)
      rw [hq0] at h6
      exact h6
    have hR0 : rx_R (Dg, L, S0, bx_mdH ct.2.2.1) cl A s xa M.2.2.1 s.heap (I, [], ht, 0, 0, 0, rx_largs 0 as, []) r ad s.heap [] ls :=
      ⟨a2, fun f h => absurd h List.not_mem_nil, fun f h => absurd h List.not_mem_nil, ⟨S0, bx_W0_md hW0, va_S.rf, ⟨fun _ _ _ _ _ => rfl, fun _ => bx_noE_chain hne⟩, a4⟩, hl, fun q hq => rx_sc.any (a6 _ (rx_largs_mem hq)), fun v hv => absurd hv List.not_mem_nil⟩
    suffices hret : bx_RetH p l e { frames := ct.2.2.2.1, cells := M.2.2.2.2.2.2.1, slots := M.2.2.2.2.2.2.2, locals := ct.2.2.2.1 * 40 } s m (bx_avs ad ct.1 ws).toArray below meth c (MQ below Qc (bx_avs ad ct.1 ws).toArray s M.2.2.2.2.2.2.1 M.2.2.2.2.2.2.2 A) Dg L X cl A xa s.heap ad M B.2.2.1 ct.2.1 S0 ct.2.2.1 (PS S0 ws) by
      have main := bx_loopS (R := { frames := ct.2.2.2.1, cells := M.2.2.2.2.2.2.1, slots := M.2.2.2.2.2.2.2, locals := ct.2.2.2.1 * 40 }) (p := p) (e := e) (below := below) (m := m) (meth := meth) (c := c) (args := (bx_avs ad ct.1 ws).toArray) (s := s) (H0 := s.heap) (inv := inv S0 ws) (mea := mea) (Sin := S0) (ms := ct.2.2.1) (tab := tab) (Dg := Dg) (L := L) (X := X) (cl := cl) (A := A) (xa := xa) (ad := ad) (M := M) (l := l) (Q := MQ below Qc (bx_avs ad ct.1 ws).toArray s M.2.2.2.2.2.2.1 M.2.2.2.2.2.2.2 A) (fun i q hq => by
        cases hus : us q with
        | true => exact hU S0 ws hP i q hq hus hF hA rfl (Nat.le_refl _) (Nat.le_refl _) (Nat.le_refl _) (Nat.le_refl _)
        | false =>
          refine bx_runStep hcl hdm hX (fun S hXS cut => rx_goal (D := (Dg, L, S, bx_mdH ct.2.2.1)) hGG hPX t1 t4 tm tc hV hnp hdm hmd (hxh S hXS) f ct.2.2.2.1 (Nat.le_refl _) cut) m1 hnoA ?_ (hC S0 ws hP i q hq hus) (hE S0 ws hP i q hq hus) hF hA rfl (Nat.le_refl _) (Nat.le_refl _) (Nat.le_refl _) (Nat.le_refl _) hret
          have h6 := List.all_eq_true.mp hall q (List.mem_of_getElem? hq)
          rw [Bool.and_eq_true, Bool.or_eq_true] at h6
          rcases h6.2 with h7 | h7
          · rw [show us q = true from h7] at hus
            cases hus
          · exact h7) _ 0 q0 hq0t S0 r s.heap [] ls rfl (h0 S0 ws r I0 I ht0 ht as hent hen1 hX0 hInv0 hP a2 a7) hX0 (fun _ _ _ _ _ => rfl) (by rw [hq0]; exact hR0)
      rw [hq0] at main
      exact main
    · intro E S_p r_p H' locs' ls' pc' k' n' hfE hsat hkn hW' hsame hPS hS hk hn hrt
      have hpost : ∀ t : State, t.heap = H' → s.WarmedH t.vm → Qc (bx_avs ad ct.1 ws).toArray s (.returned (E.2.2.2.map (rx_iv r_p ad xa))) t := by
        intro t ht' hWm
        refine hQc _ _ _ _ ?_
        have hret : bx_retOK L ad ct.2.1 (E.2.2.2.map (rx_iv r_p ad xa)) ∧ ∀ a, ct.2.1 = some a → ∃ x, E.2.2.2.map (bx_num r_p) = some x ∧ E.2.2.2.map (rx_iv r_p ad xa) = some (bx_fv ad a.1 x) ∧ bx_okR L 0 a.2 x := by
          unfold bx_fE at hfE
          unfold bx_retOK
          split at hfE
          · rename_i h1 h2
            rw [h1, h2]
            exact ⟨rfl, fun a ha => by cases ha⟩
          · rename_i a v h1 h2
            rw [hdm] at hfE
            obtain ⟨n1, n2, -⟩ := bx_fits_ok (D := (Dg, L, S0, bx_mdH ct.2.2.1)) (ad := ad) (xa := xa) hsat hkn hfE
            rw [h1, h2]
            rw [hsat.1] at n2
            exact ⟨⟨_, congrArg some n1, n2⟩, fun a' ha => by
              cases ha
              exact ⟨_, rfl, congrArg some n1, n2⟩⟩
          · exact absurd hfE Bool.false_ne_true
        refine ⟨⟨S_p, _, rfl, hret.1, ?_, hsame, hX _ _ hX0 hsame, _, hPS, hret.2⟩, hS.F ht'⟩
        rw [ht']
        exact bx_W0_md (hW'.moved hWm.alike)
      exact W.widen hk hn (bx_leave hx hb hr hlocks hrt hpost hS.2.2)
  · exact absurd hc Bool.false_ne_true
/-- as a contract of boxes -/
theorem bx_ConP.con {M : rx_Mt} {ct : bx_Ct} {P : (Nat → Int → Int) → List Int → Prop} {PS : (Nat → Int → Int) → List Int → (Nat → Int → Int) → Option Int → Prop} (h : bx_ConP G NW AO PX Dg L X cl A ad l M ct P PS) (hP : ∀ S0 ws, P S0 ws) : bx_Con G NW AO PX Dg L X cl A ad l M ct := by
  intro S0 vs hX0 hvs hpr
  obtain ⟨ws, h1, h2⟩ := bx_argOK_is hvs
  rw [h2]
  refine h S0 ws hX0 h1 hpr (hP _ _) _ fun x st oc t hq => ?_
  obtain ⟨⟨S_p, rv, g1, g2, g3, g4, g5, -⟩, g6⟩ := hq
  exact ⟨⟨S_p, rv, g1, g2, g3, g4, g5⟩, g6⟩
end BXHL
