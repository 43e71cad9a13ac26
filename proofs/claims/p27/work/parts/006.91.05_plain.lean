section
noncomputable def ry_pi (st : List ry_V) : Option (ry_E × List ry_V) := match st with
  | .inr (0, e) :: t => some (e, t)
  | _ => none
noncomputable def ry_pl (st : List ry_V) : Option (ry_E × List ry_V) := match st with
  | .inr (1, e) :: t => some (e, t)
  | _ => none
noncomputable def ry_pr (st : List ry_V) : Option (Option Nat × List ry_V) := match st with
  | .inl o :: t => some (o, t)
  | _ => none
noncomputable def ry_pv (st : List ry_V) : Option (ry_V × List ry_V) := match st with
  | v :: t => some (v, t)
  | [] => none
theorem ry_pi_ok {st t : List ry_V} {e : ry_E} (h : ry_pi st = some (e, t)) : st = .inr (0, e) :: t := by
  match st, h with
  | [], h => exact absurd (show (none : Option (ry_E × List ry_V)) = some (e, t) from h) (fun q => by cases q)
  | .inl _ :: _, h => exact absurd (show (none : Option (ry_E × List ry_V)) = some (e, t) from h) (fun q => by cases q)
  | .inr (0, e0) :: t0, h =>
    have h2 : some (e0, t0) = some (e, t) := h
    cases h2
    rfl
  | .inr (_ + 1, _) :: _, h => exact absurd (show (none : Option (ry_E × List ry_V)) = some (e, t) from h) (fun q => by cases q)
theorem ry_pl_ok {st t : List ry_V} {e : ry_E} (h : ry_pl st = some (e, t)) : st = .inr (1, e) :: t := by
  match st, h with
  | [], h => exact absurd (show (none : Option (ry_E × List ry_V)) = some (e, t) from h) (fun q => by cases q)
  | .inl _ :: _, h => exact absurd (show (none : Option (ry_E × List ry_V)) = some (e, t) from h) (fun q => by cases q)
  | .inr (0, _) :: _, h => exact absurd (show (none : Option (ry_E × List ry_V)) = some (e, t) from h) (fun q => by cases q)
  | .inr (1, e0) :: t0, h =>
    have h2 : some (e0, t0) = some (e, t) := h
    cases h2
    rfl
  | .inr (_ + 2, _) :: _, h => exact absurd (show (none : Option (ry_E × List ry_V)) = some (e, t) from h) (fun q => by cases q)
theorem ry_pr_ok {st t : List ry_V} {o : Option Nat} (h : ry_pr st = some (o, t)) : st = .inl o :: t := by
  match st, h with
  | [], h => exact absurd (show (none : Option (Option Nat × List ry_V)) = some (o, t) from h) (fun q => by cases q)
  | .inl o0 :: t0, h =>
    have h2 : some (o0, t0) = some (o, t) := h
    cases h2
    rfl
  | .inr _ :: _, h => exact absurd (show (none : Option (Option Nat × List ry_V)) = some (o, t) from h) (fun q => by cases q)
theorem ry_pv_ok {st t : List ry_V} {v : ry_V} (h : ry_pv st = some (v, t)) : st = v :: t := by
  match st, h with
  | [], h => exact absurd (show (none : Option (ry_V × List ry_V)) = some (v, t) from h) (fun q => by cases q)
  | v0 :: t0, h =>
    have h2 : some (v0, t0) = some (v, t) := h
    cases h2
    rfl
noncomputable def ry_zst (z : ry_Z) : List ry_V := z.2.2.2.2.2.2.2
noncomputable def ry_zlv (z : ry_Z) : List (Nat × ry_V) := z.2.2.2.2.2.2.1
noncomputable def ry_zpc (z : ry_Z) : Nat := z.2.2.2.2.2.1
noncomputable def ry_nx (z : ry_Z) (d : Nat) (st : List ry_V) : ry_Z := match z with
  | (I0, F1, ht0, c0, s0, pc0, lv0, _) => (I0, F1, ht0, c0, s0, pc0 + d, lv0, st)
noncomputable def ry_nxI (I : ry_I) (z : ry_Z) (d : Nat) (st : List ry_V) : ry_Z := match z with
  | (_, F1, ht0, c0, s0, pc0, lv0, _) => (I, F1, ht0, c0, s0, pc0 + d, lv0, st)
noncomputable def ry_nxl (lv : List (Nat × ry_V)) (z : ry_Z) (d : Nat) (st : List ry_V) : ry_Z := match z with
  | (I0, F1, ht0, c0, s0, pc0, _, _) => (I0, F1, ht0, c0, s0, pc0 + d, lv, st)
section RYP
variable {p : Program} {l : Launch} {e : Env} {R : Room} {s : State} {m : MethodId} {args : Array Value} {below : List Frame} {meth : Method} {c : Code} {Q : State → Prop}
variable {D : va_G} {cl : List vw_C} {A : Nat → Prop} {xa : Nat → Nat} {nL : Nat} {H0 H : Heap} {locs : List Loc} {ls : Array Slot} {r : Nat → Int} {ad : Nat → Nat}
variable {cc : ByteArray} {z : ry_Z} {zs : List ry_Z}
theorem ry_at {N M : Nat} {z_p : ry_Z} {r_p : Nat → Int} {ad_p : Nat → Nat} {H_p : Heap} {locs_p : List Loc} {ls_p : Array Slot} {pc k n : Nat} {vs : List Value} (K : ry_G p l e R s m args below meth c Q D cl A xa nL H0 N M r ad z_p) (hr : ry_same N r r_p) (ha : ry_sameA M ad ad_p) (hR : ry_R D cl A s xa nL H0 z_p r_p ad_p H_p locs_p ls_p)
    (hpc : ry_zpc z_p = pc) (hk : z_p.2.2.2.1 = k) (hn : z_p.2.2.2.2.1 = n) (hvs : (ry_zst z_p).map (ry_iv r_p ad_p xa) = vs)
    (hN : N ≤ z_p.1.length := by first | exact Nat.le_refl _ | assumption | (apply Nat.le_of_eq; symm; assumption) | (unfold ry_nxa; simp)) (hM : M ≤ z_p.2.2.1.length := by first | exact Nat.le_refl _ | assumption | (unfold ry_nxa; simp) | (unfold ry_nxh; simp)) : W p l e R s m args below meth c H_p locs_p k n Q (F0 m pc ls_p vs) := by
  subst hpc; subst hk; subst hn; subst hvs
  exact K r_p ad_p H_p locs_p ls_p hN hM hr ha hR
theorem ry_stsc (hR : ry_R D cl A s xa nL H0 z r ad H locs ls) : ∀ v ∈ ry_zst z, ry_sc z.1.length z.2.2.1.length v := hR.2.2.2.2.2.2
theorem ry_lvsc (hR : ry_R D cl A s xa nL H0 z r ad H locs ls) : ∀ q ∈ ry_zlv z, ry_sc z.1.length z.2.2.1.length q.2 := hR.2.2.2.2.2.1
theorem ry_lvh (hR : ry_R D cl A s xa nL H0 z r ad H locs ls) : lv_has ls nL (ry_lvs r ad xa (ry_zlv z)) := hR.2.2.2.2.1
theorem ry_R_nx {d : Nat} {st : List ry_V} (hR : ry_R D cl A s xa nL H0 z r ad H locs ls) (hs : ∀ v ∈ st, ry_sc z.1.length z.2.2.1.length v) : ry_R D cl A s xa nL H0 (ry_nx z d st) r ad H locs ls :=
  ⟨hR.1, hR.2.1, hR.2.2.1, hR.2.2.2.1, hR.2.2.2.2.1, hR.2.2.2.2.2.1, hs⟩
theorem ry_R_nxl {d : Nat} {st : List ry_V} {lv : List (Nat × ry_V)} {ls_p : Array Slot} (hR : ry_R D cl A s xa nL H0 z r ad H locs ls) (hl : lv_has ls_p nL (ry_lvs r ad xa lv)) (hq : ∀ q ∈ lv, ry_sc z.1.length z.2.2.1.length q.2) (hs : ∀ v ∈ st, ry_sc z.1.length z.2.2.1.length v) : ry_R D cl A s xa nL H0 (ry_nxl lv z d st) r ad H locs ls_p :=
  ⟨hR.1, hR.2.1, hR.2.2.1, hR.2.2.2.1, hl, hq, hs⟩
theorem ry_fsc.mono {N N_p : Nat} {F : ry_F} (h : ry_fsc N F) (hN : N ≤ N_p) : ry_fsc N_p F := fun f hf => ⟨Nat.lt_of_lt_of_le (h f hf).1 hN, Nat.lt_of_lt_of_le (h f hf).2 hN⟩
theorem ry_R_nxI {d : Nat} {st : List ry_V} {I : ry_I} {r_p : Nat → Int} (hR : ry_R D cl A s xa nL H0 z r ad H locs ls) (hI : z.1.length ≤ I.length) (hr : ry_same z.1.length r r_p) (hsat : ry_sat I r_p) (hs : ∀ v ∈ st, ry_sc I.length z.2.2.1.length v) : ry_R D cl A s xa nL H0 (ry_nxI I z d st) r_p ad H locs ls :=
  ⟨hsat, ry_facts_ext hR.2.1 hR.2.2.1 hr, hR.2.2.1.mono hI, hR.2.2.2.1.ext hI hr ry_sameA.rf, by
    have h := ry_lvh hR
    show lv_has ls nL (ry_lvs r_p ad xa (ry_zlv z))
    rw [ry_lvs_ext (ry_lvsc hR) hr ry_sameA.rf]
    exact h, fun q hq => ry_sc.mono (ry_lvsc hR q hq) hI (Nat.le_refl _), hs⟩
theorem ry_n_iv {I : ry_I} (hs : ry_sat I r) (n : Int) : ry_iv r ad xa (ry_n n) = .int (Int32.ofInt n) := by
  show Value.int (Int32.ofInt (ry_ev r (0, n))) = _
  rw [ry_ev0 hs]
theorem ry_nL_iv {I : ry_I} (hs : ry_sat I r) (n : Int) : ry_iv r ad xa (.inr (1, (0, n))) = .long (Int64.ofInt n) := by
  show Value.long (Int64.ofInt (ry_ev r (0, n))) = _
  rw [ry_ev0 hs]
theorem ry_sc0 (hR : ry_R D cl A s xa nL H0 z r ad H locs ls) (k : Nat) (n : Int) : ry_sc z.1.length z.2.2.1.length (.inr (k, (0, n))) := ry_pos hR.1
theorem ry_push {v : ry_V} {w : Value} {d : Nat} (hR : ry_R D cl A s xa nL H0 z r ad H locs ls) (hv : ry_iv r ad xa v = w) (hsc : ry_sc z.1.length z.2.2.1.length v)
    (K : ry_G p l e R s m args below meth c Q D cl A xa nL H0 z.1.length z.2.2.1.length r ad (ry_nx z d (v :: ry_zst z))) : W p l e R s m args below meth c H locs z.2.2.2.1 z.2.2.2.2.1 Q (F0 m (ry_zpc z + d) ls (w :: (ry_zst z).map (ry_iv r ad xa))) := by
  refine ry_at K ry_same.rf ry_sameA.rf (ry_R_nx hR fun x hx => ?_) rfl rfl rfl (by rw [← hv]; rfl)
  rcases List.mem_cons.mp hx with h | h
  · subst h; exact hsc
  · exact ry_stsc hR x h
end RYP
noncomputable def ry_h_push (v : ry_V) (d : Nat) (z : ry_Z) : Option (List ry_Z) := some [ry_nx z d (v :: ry_zst z)]
noncomputable def ry_h_load (kd i d : Nat) (z : ry_Z) : Option (List ry_Z) := match ry_lk (ry_zlv z) i with
  | some (.inr (j, e)) => if j = kd then some [ry_nx z d (.inr (j, e) :: ry_zst z)] else none
  | _ => none
noncomputable def ry_h_loadA (i d : Nat) (z : ry_Z) : Option (List ry_Z) := match ry_lk (ry_zlv z) i with
  | some (.inl o) => some [ry_nx z d (.inl o :: ry_zst z)]
  | some (.inr (j + 2, e)) => some [ry_nx z d (.inr (j + 2, e) :: ry_zst z)]
  | _ => none
noncomputable def ry_h_istore (nL i d : Nat) (z : ry_Z) : Option (List ry_Z) := match ry_pi (ry_zst z) with
  | some (e, t) => if i < nL then some [ry_nxl ((i, .inr (0, e)) :: ry_del (ry_zlv z) i) z d t] else none
  | none => none
noncomputable def ry_h_lstore (nL i d : Nat) (z : ry_Z) : Option (List ry_Z) := match ry_pl (ry_zst z) with
  | some (e, t) => if i + 1 < nL then some [ry_nxl ((i, .inr (1, e)) :: ry_del2 (ry_zlv z) i) z d t] else none
  | none => none
noncomputable def ry_h_astore (nL i d : Nat) (z : ry_Z) : Option (List ry_Z) := match ry_pr (ry_zst z) with
  | some (o, t) => if i < nL then some [ry_nxl ((i, .inl o) :: ry_del (ry_zlv z) i) z d t] else none
  | none => none
noncomputable def ry_h_iinc (nL i : Nat) (n : Int) (z : ry_Z) : Option (List ry_Z) := match ry_lk (ry_zlv z) i with
  | some (.inr (0, e)) => match ry_bin 0 z.1 e (0, n) with
    | some (I, e2) => if i < nL then some [(I, z.2.1, z.2.2.1, z.2.2.2.1, z.2.2.2.2.1, ry_zpc z + 3, (i, .inr (0, e2)) :: ry_del (ry_zlv z) i, ry_zst z)] else none
    | none => none
  | _ => none
noncomputable def ry_h_bin (o : Nat) (z : ry_Z) : Option (List ry_Z) := match ry_pi (ry_zst z) with
  | some (b, t) => match ry_pi t with
    | some (a, t) => match ry_bin o z.1 a b with
      | some (I, e) => some [ry_nxI I z 1 (.inr (0, e) :: t)]
      | none => none
    | none => none
  | none => none
noncomputable def ry_nz (b : Option (Int × Int)) : Bool := match b with
  | some (lo, hi) => decide (0 < lo) || decide (hi < 0)
  | none => false
noncomputable def ry_h_div (o : Nat) (z : ry_Z) : Option (List ry_Z) := match ry_pi (ry_zst z) with
  | some (b, t) => if ry_nz (ry_bi z.1 b) then ry_h_bin o z else none
  | none => none
noncomputable def ry_h_binL (o : Nat) (z : ry_Z) : Option (List ry_Z) := match ry_pl (ry_zst z) with
  | some (b, t) => match ry_pl t with
    | some (a, t) => some [ry_nxI (ry_binL o z.1 a b).1 z 1 (.inr (1, (ry_binL o z.1 a b).2) :: t)]
    | none => none
  | none => none
noncomputable def ry_h_divL (o : Nat) (z : ry_Z) : Option (List ry_Z) := match ry_pl (ry_zst z) with
  | some (b, t) => if ry_nz (ry_bl z.1 b) then ry_h_binL o z else none
  | none => none
noncomputable def ry_h_ineg (z : ry_Z) : Option (List ry_Z) := match ry_pi (ry_zst z) with
  | some (a, t) => match ry_bin 1 z.1 (0, 0) a with
    | some (I, e) => some [ry_nxI I z 1 (.inr (0, e) :: t)]
    | none => none
  | none => none
noncomputable def ry_h_i2l (z : ry_Z) : Option (List ry_Z) := match ry_pi (ry_zst z) with
  | some (a, t) => match ry_bi z.1 a with
    | some _ => some [ry_nx z 1 (.inr (1, a) :: t)]
    | none => none
  | none => none
noncomputable def ry_h_dup (z : ry_Z) : Option (List ry_Z) := match ry_pv (ry_zst z) with
  | some (v, t) => if ry_k2 v then none else some [ry_nx z 1 (v :: v :: t)]
  | none => none
noncomputable def ry_h_pop (z : ry_Z) : Option (List ry_Z) := match ry_pv (ry_zst z) with
  | some (v, t) => if ry_k2 v then none else some [ry_nx z 1 t]
  | none => none
noncomputable def ry_h_dup2 (z : ry_Z) : Option (List ry_Z) := match ry_pv (ry_zst z) with
  | some (v, t) => if ry_k2 v then some [ry_nx z 1 (v :: v :: t)] else match ry_pv t with
    | some (w, t) => if ry_k2 w then none else some [ry_nx z 1 (v :: w :: v :: w :: t)]
    | none => none
  | none => none
section RYQ
variable {p : Program} {l : Launch} {e : Env} {R : Room} {s : State} {m : MethodId} {args : Array Value} {below : List Frame} {meth : Method} {c : Code} {Q : State → Prop}
variable {D : va_G} {cl : List vw_C} {A : Nat → Prop} {xa : Nat → Nat} {nL : Nat} {H0 H : Heap} {locs : List Loc} {ls : Array Slot} {r : Nat → Int} {ad : Nat → Nat}
variable {cc : ByteArray} {z : ry_Z} {zs : List ry_Z}
theorem ry_h_push_ok {v : ry_V} {w : Value} {d : Nat} (hR : ry_R D cl A s xa nL H0 z r ad H locs ls) (hz : ry_h_push v d z = some zs) (hv : ry_iv r ad xa v = w) (hsc : ry_sc z.1.length z.2.2.1.length v)
    (row : W p l e R s m args below meth c H locs z.2.2.2.1 z.2.2.2.2.1 Q (F0 m (ry_zpc z + d) ls (w :: (ry_zst z).map (ry_iv r ad xa))) → W p l e R s m args below meth c H locs z.2.2.2.1 z.2.2.2.2.1 Q (F0 m (ry_zpc z) ls ((ry_zst z).map (ry_iv r ad xa))))
    (K : ∀ z_p ∈ zs, ry_G p l e R s m args below meth c Q D cl A xa nL H0 z.1.length z.2.2.1.length r ad z_p) : W p l e R s m args below meth c H locs z.2.2.2.1 z.2.2.2.2.1 Q (F0 m (ry_zpc z) ls ((ry_zst z).map (ry_iv r ad xa))) := by
  unfold ry_h_push at hz
  cases hz
  exact row (ry_push hR hv hsc (K _ List.mem_cons_self))
theorem ry_h_load_ok {kd i d : Nat} (hR : ry_R D cl A s xa nL H0 z r ad H locs ls) (hz : ry_h_load kd i d z = some zs)
    (row : ∀ e0 : ry_E, ls[i]? = some (.val (ry_iv r ad xa (.inr (kd, e0)))) → W p l e R s m args below meth c H locs z.2.2.2.1 z.2.2.2.2.1 Q (F0 m (ry_zpc z + d) ls (ry_iv r ad xa (.inr (kd, e0)) :: (ry_zst z).map (ry_iv r ad xa))) → W p l e R s m args below meth c H locs z.2.2.2.1 z.2.2.2.2.1 Q (F0 m (ry_zpc z) ls ((ry_zst z).map (ry_iv r ad xa))))
    (K : ∀ z_p ∈ zs, ry_G p l e R s m args below meth c Q D cl A xa nL H0 z.1.length z.2.2.1.length r ad z_p) : W p l e R s m args below meth c H locs z.2.2.2.1 z.2.2.2.2.1 Q (F0 m (ry_zpc z) ls ((ry_zst z).map (ry_iv r ad xa))) := by
  unfold ry_h_load at hz
  split at hz
  · rename_i j e0 he
    split at hz
    · rename_i hj
      subst hj
      cases hz
      exact row e0 (ry_lv_get (ry_lvh hR) he) (ry_push hR rfl (ry_lvsc hR _ (ry_lk_mem he)) (K _ List.mem_cons_self))
    · cases hz
  · cases hz
theorem ry_h_loadA_ok {i d : Nat} (hR : ry_R D cl A s xa nL H0 z r ad H locs ls) (hz : ry_h_loadA i d z = some zs)
    (rowN : ls[i]? = some (.val .null) → W p l e R s m args below meth c H locs z.2.2.2.1 z.2.2.2.2.1 Q (F0 m (ry_zpc z + d) ls (.null :: (ry_zst z).map (ry_iv r ad xa))) → W p l e R s m args below meth c H locs z.2.2.2.1 z.2.2.2.2.1 Q (F0 m (ry_zpc z) ls ((ry_zst z).map (ry_iv r ad xa))))
    (row : ∀ a : Nat, ls[i]? = some (.val (.ref a)) → W p l e R s m args below meth c H locs z.2.2.2.1 z.2.2.2.2.1 Q (F0 m (ry_zpc z + d) ls (.ref a :: (ry_zst z).map (ry_iv r ad xa))) → W p l e R s m args below meth c H locs z.2.2.2.1 z.2.2.2.2.1 Q (F0 m (ry_zpc z) ls ((ry_zst z).map (ry_iv r ad xa))))
    (K : ∀ z_p ∈ zs, ry_G p l e R s m args below meth c Q D cl A xa nL H0 z.1.length z.2.2.1.length r ad z_p) : W p l e R s m args below meth c H locs z.2.2.2.1 z.2.2.2.2.1 Q (F0 m (ry_zpc z) ls ((ry_zst z).map (ry_iv r ad xa))) := by
  unfold ry_h_loadA at hz
  split at hz
  · rename_i o he
    cases hz
    have hg := ry_lv_get (ry_lvh hR) he
    have hp := ry_push (w := ry_iv r ad xa (.inl o)) (d := d) hR rfl (ry_lvsc hR _ (ry_lk_mem he)) (K _ List.mem_cons_self)
    match o, hg, hp with
    | none, hg, hp => exact rowN hg hp
    | some k, hg, hp => exact row _ hg hp
  · rename_i j e0 he
    cases hz
    exact row (xa e0.2.toNat) (ry_lv_get (ry_lvh hR) he) (ry_push (v := .inr (j + 2, e0)) hR rfl (ry_lvsc hR _ (ry_lk_mem he)) (K _ List.mem_cons_self))
  · cases hz
theorem ry_del_mem {lv : List (Nat × ry_V)} {i : Nat} {q : Nat × ry_V} (h : q ∈ ry_del lv i) : q ∈ lv := (List.mem_filter.mp h).1
theorem ry_del2_mem {lv : List (Nat × ry_V)} {i : Nat} {q : Nat × ry_V} (h : q ∈ ry_del2 lv i) : q ∈ lv := (List.mem_filter.mp h).1
theorem ry_h_istore_ok {i d : Nat} (hR : ry_R D cl A s xa nL H0 z r ad H locs ls) (hz : ry_h_istore nL i d z = some zs)
    (row : ∀ (x : Int32) (rest : List Value), i < nL → (∀ ls_p : Array Slot, lv_has ls_p nL ((i, Value.int x) :: (ry_lvs r ad xa (ry_zlv z)).filter (fun q => !(q.1 == i) && !(q.1 + 1 == i && q.2.category == 2))) → W p l e R s m args below meth c H locs z.2.2.2.1 z.2.2.2.2.1 Q (F0 m (ry_zpc z + d) ls_p rest)) → W p l e R s m args below meth c H locs z.2.2.2.1 z.2.2.2.2.1 Q (F0 m (ry_zpc z) ls (.int x :: rest)))
    (K : ∀ z_p ∈ zs, ry_G p l e R s m args below meth c Q D cl A xa nL H0 z.1.length z.2.2.1.length r ad z_p) : W p l e R s m args below meth c H locs z.2.2.2.1 z.2.2.2.2.1 Q (F0 m (ry_zpc z) ls ((ry_zst z).map (ry_iv r ad xa))) := by
  unfold ry_h_istore at hz
  split at hz
  · rename_i e0 t he
    split at hz
    · rename_i hi
      cases hz
      have hst := ry_stsc hR
      rw [ry_pi_ok he] at hst ⊢
      refine row _ _ hi fun ls_p hl => ?_
      refine ry_at (K _ List.mem_cons_self) ry_same.rf ry_sameA.rf (ry_R_nxl hR (ry_lv_st (v := .inr (0, e0)) hl) (fun q hq => ?_) (fun v hv => hst v (List.mem_cons_of_mem _ hv))) rfl rfl rfl rfl
      rcases List.mem_cons.mp hq with h | h
      · subst h; exact hst _ List.mem_cons_self
      · exact ry_lvsc hR q (ry_del_mem h)
    · cases hz
  · cases hz
theorem ry_h_lstore_ok {i d : Nat} (hR : ry_R D cl A s xa nL H0 z r ad H locs ls) (hz : ry_h_lstore nL i d z = some zs)
    (row : ∀ (x : Int64) (rest : List Value), i + 1 < nL → (∀ ls_p : Array Slot, lv_has ls_p nL ((i, Value.long x) :: (ry_lvs r ad xa (ry_zlv z)).filter (fun q => !(q.1 == i) && (!(q.1 == i + 1) && !(q.1 + 1 == i && q.2.category == 2)))) → W p l e R s m args below meth c H locs z.2.2.2.1 z.2.2.2.2.1 Q (F0 m (ry_zpc z + d) ls_p rest)) → W p l e R s m args below meth c H locs z.2.2.2.1 z.2.2.2.2.1 Q (F0 m (ry_zpc z) ls (.long x :: rest)))
    (K : ∀ z_p ∈ zs, ry_G p l e R s m args below meth c Q D cl A xa nL H0 z.1.length z.2.2.1.length r ad z_p) : W p l e R s m args below meth c H locs z.2.2.2.1 z.2.2.2.2.1 Q (F0 m (ry_zpc z) ls ((ry_zst z).map (ry_iv r ad xa))) := by
  unfold ry_h_lstore at hz
  split at hz
  · rename_i e0 t he
    split at hz
    · rename_i hi
      cases hz
      have hst := ry_stsc hR
      rw [ry_pl_ok he] at hst ⊢
      refine row _ _ hi fun ls_p hl => ?_
      refine ry_at (K _ List.mem_cons_self) ry_same.rf ry_sameA.rf (ry_R_nxl hR (ry_lv_st2 (v := .inr (1, e0)) hl) (fun q hq => ?_) (fun v hv => hst v (List.mem_cons_of_mem _ hv))) rfl rfl rfl rfl
      rcases List.mem_cons.mp hq with h | h
      · subst h; exact hst _ List.mem_cons_self
      · exact ry_lvsc hR q (ry_del2_mem h)
    · cases hz
  · cases hz
theorem ry_h_astore_ok {i d : Nat} (hR : ry_R D cl A s xa nL H0 z r ad H locs ls) (hz : ry_h_astore nL i d z = some zs)
    (row : ∀ (o : Option Nat) (rest : List Value), i < nL → (∀ ls_p : Array Slot, lv_has ls_p nL ((i, ry_iv r ad xa (.inl o)) :: (ry_lvs r ad xa (ry_zlv z)).filter (fun q => !(q.1 == i) && !(q.1 + 1 == i && q.2.category == 2))) → W p l e R s m args below meth c H locs z.2.2.2.1 z.2.2.2.2.1 Q (F0 m (ry_zpc z + d) ls_p rest)) → W p l e R s m args below meth c H locs z.2.2.2.1 z.2.2.2.2.1 Q (F0 m (ry_zpc z) ls (ry_iv r ad xa (.inl o) :: rest)))
    (K : ∀ z_p ∈ zs, ry_G p l e R s m args below meth c Q D cl A xa nL H0 z.1.length z.2.2.1.length r ad z_p) : W p l e R s m args below meth c H locs z.2.2.2.1 z.2.2.2.2.1 Q (F0 m (ry_zpc z) ls ((ry_zst z).map (ry_iv r ad xa))) := by
  unfold ry_h_astore at hz
  split at hz
  · rename_i o t he
    split at hz
    · rename_i hi
      cases hz
      have hst := ry_stsc hR
      rw [ry_pr_ok he] at hst ⊢
      refine row _ _ hi fun ls_p hl => ?_
      refine ry_at (K _ List.mem_cons_self) ry_same.rf ry_sameA.rf (ry_R_nxl hR (ry_lv_st (v := .inl o) hl) (fun q hq => ?_) (fun v hv => hst v (List.mem_cons_of_mem _ hv))) rfl rfl rfl rfl
      rcases List.mem_cons.mp hq with h | h
      · subst h; exact hst _ List.mem_cons_self
      · exact ry_lvsc hR q (ry_del_mem h)
    · cases hz
  · cases hz
theorem ry_pushI {kd d : Nat} {I : ry_I} {e0 : ry_E} {t : List ry_V} {r_p : Nat → Int} {w : Value} (hR : ry_R D cl A s xa nL H0 z r ad H locs ls) (ht : ∀ v ∈ t, ry_sc z.1.length z.2.2.1.length v) (hr : ry_same z.1.length r r_p) (hsat : ry_sat I r_p) (hI : z.1.length ≤ I.length) (he : e0.1 < I.length) (hw : ry_iv r_p ad xa (.inr (kd, e0)) = w)
    (K : ry_G p l e R s m args below meth c Q D cl A xa nL H0 z.1.length z.2.2.1.length r ad (ry_nxI I z d (.inr (kd, e0) :: t))) : W p l e R s m args below meth c H locs z.2.2.2.1 z.2.2.2.2.1 Q (F0 m (ry_zpc z + d) ls (w :: t.map (ry_iv r ad xa))) := by
  refine ry_at K hr ry_sameA.rf (ry_R_nxI hR hI hr hsat fun v hv => ?_) rfl rfl rfl ?_
  · rcases List.mem_cons.mp hv with h | h
    · subst h; exact he
    · exact ry_sc.mono (ht v h) hI (Nat.le_refl _)
  · show ry_iv r_p ad xa (.inr (kd, e0)) :: t.map (ry_iv r_p ad xa) = _
    rw [hw, ry_st_ext ht hr ry_sameA.rf]
theorem ry_h_bin_ok {o : Nat} (hR : ry_R D cl A s xa nL H0 z r ad H locs ls) (hz : ry_h_bin o z = some zs)
    (row : ∀ (a b : ry_E) (t : List ry_V), ry_zst z = .inr (0, b) :: .inr (0, a) :: t → W p l e R s m args below meth c H locs z.2.2.2.1 z.2.2.2.2.1 Q (F0 m (ry_zpc z + 1) ls (.int (ry_op o (Int32.ofInt (ry_ev r a)) (Int32.ofInt (ry_ev r b))) :: t.map (ry_iv r ad xa))) → W p l e R s m args below meth c H locs z.2.2.2.1 z.2.2.2.2.1 Q (F0 m (ry_zpc z) ls (.int (Int32.ofInt (ry_ev r b)) :: .int (Int32.ofInt (ry_ev r a)) :: t.map (ry_iv r ad xa))))
    (K : ∀ z_p ∈ zs, ry_G p l e R s m args below meth c Q D cl A xa nL H0 z.1.length z.2.2.1.length r ad z_p) : W p l e R s m args below meth c H locs z.2.2.2.1 z.2.2.2.2.1 Q (F0 m (ry_zpc z) ls ((ry_zst z).map (ry_iv r ad xa))) := by
  unfold ry_h_bin at hz
  split at hz
  · rename_i b t hb
    split at hz
    · rename_i a t2 ha
      split at hz
      · rename_i I2 e2 he
        cases hz
        have e1 := ry_pi_ok hb
        have e3 := ry_pi_ok ha
        subst e3
        have hst := ry_stsc hR
        obtain ⟨r_p, q1, q2, q3, q4, q5⟩ := ry_bin_ok hR.1 he
        have rw1 := row a b t2 e1
        rw [e1] at hst ⊢
        exact rw1 (ry_pushI hR (fun v hv => hst v (List.mem_cons_of_mem _ (List.mem_cons_of_mem _ hv))) q1 q2 q4 q5 (by show Value.int (Int32.ofInt (ry_ev r_p e2)) = _; rw [q3]) (K _ List.mem_cons_self))
      · cases hz
    · cases hz
  · cases hz
theorem ry_nz_ok {I : ry_I} {b : ry_E} (h : ry_sat I r) (hn : ry_nz (ry_bi I b) = true) : ¬ Int32.ofInt (ry_ev r b) = 0 := by
  unfold ry_nz at hn
  split at hn
  · rename_i lo hi he
    obtain ⟨h1, h2, h3, -⟩ := ry_bi_ok h he
    intro q
    rw [q, Int32.toInt_zero] at h3
    rw [Bool.or_eq_true, decide_eq_true_eq, decide_eq_true_eq] at hn
    omega
  · exact absurd hn Bool.false_ne_true
theorem ry_nzL_ok {I : ry_I} {b : ry_E} (h : ry_sat I r) (hn : ry_nz (ry_bl I b) = true) : ¬ Int64.ofInt (ry_ev r b) = 0 := by
  unfold ry_nz at hn
  split at hn
  · rename_i lo hi he
    obtain ⟨h1, h2, h3, -⟩ := ry_bl_ok h he
    intro q
    rw [q, Int64.toInt_zero] at h3
    rw [Bool.or_eq_true, decide_eq_true_eq, decide_eq_true_eq] at hn
    omega
  · exact absurd hn Bool.false_ne_true
theorem ry_h_div_ok {o : Nat} (hR : ry_R D cl A s xa nL H0 z r ad H locs ls) (hz : ry_h_div o z = some zs)
    (row : ∀ (x y : Int32) (rest : List Value), ¬ y = 0 → W p l e R s m args below meth c H locs z.2.2.2.1 z.2.2.2.2.1 Q (F0 m (ry_zpc z + 1) ls (.int (ry_op o x y) :: rest)) → W p l e R s m args below meth c H locs z.2.2.2.1 z.2.2.2.2.1 Q (F0 m (ry_zpc z) ls (.int y :: .int x :: rest)))
    (K : ∀ z_p ∈ zs, ry_G p l e R s m args below meth c Q D cl A xa nL H0 z.1.length z.2.2.1.length r ad z_p) : W p l e R s m args below meth c H locs z.2.2.2.1 z.2.2.2.2.1 Q (F0 m (ry_zpc z) ls ((ry_zst z).map (ry_iv r ad xa))) := by
  unfold ry_h_div at hz
  split at hz
  · rename_i b t hb
    split at hz
    · rename_i hn
      refine ry_h_bin_ok hR hz (fun a b_p t_p e k => row _ _ _ ?_ k) K
      have e1 := ry_pi_ok hb
      rw [e] at e1
      cases e1
      exact ry_nz_ok hR.1 hn
    · cases hz
  · cases hz
theorem ry_h_binL_ok {o : Nat} (hR : ry_R D cl A s xa nL H0 z r ad H locs ls) (hz : ry_h_binL o z = some zs)
    (row : ∀ (a b : ry_E) (t : List ry_V), ry_zst z = .inr (1, b) :: .inr (1, a) :: t → W p l e R s m args below meth c H locs z.2.2.2.1 z.2.2.2.2.1 Q (F0 m (ry_zpc z + 1) ls (.long (ry_opL o (Int64.ofInt (ry_ev r a)) (Int64.ofInt (ry_ev r b))) :: t.map (ry_iv r ad xa))) → W p l e R s m args below meth c H locs z.2.2.2.1 z.2.2.2.2.1 Q (F0 m (ry_zpc z) ls (.long (Int64.ofInt (ry_ev r b)) :: .long (Int64.ofInt (ry_ev r a)) :: t.map (ry_iv r ad xa))))
    (K : ∀ z_p ∈ zs, ry_G p l e R s m args below meth c Q D cl A xa nL H0 z.1.length z.2.2.1.length r ad z_p) : W p l e R s m args below meth c H locs z.2.2.2.1 z.2.2.2.2.1 Q (F0 m (ry_zpc z) ls ((ry_zst z).map (ry_iv r ad xa))) := by
  unfold ry_h_binL at hz
  split at hz
  · rename_i b t hb
    split at hz
    · rename_i a t2 ha
      cases hz
      have e1 := ry_pl_ok hb
      have e3 := ry_pl_ok ha
      subst e3
      have hst := ry_stsc hR
      obtain ⟨r_p, q1, q2, q3, q4, q5⟩ := ry_binL_ok (o := o) (a := a) (b := b) hR.1
      have rw1 := row a b t2 e1
      rw [e1] at hst ⊢
      exact rw1 (ry_pushI hR (fun v hv => hst v (List.mem_cons_of_mem _ (List.mem_cons_of_mem _ hv))) q1 q2 q4 q5 (by show Value.long (Int64.ofInt (ry_ev r_p _)) = _; rw [q3]) (K _ List.mem_cons_self))
    · cases hz
  · cases hz
theorem ry_h_divL_ok {o : Nat} (hR : ry_R D cl A s xa nL H0 z r ad H locs ls) (hz : ry_h_divL o z = some zs)
    (row : ∀ (x y : Int64) (rest : List Value), ¬ y = 0 → W p l e R s m args below meth c H locs z.2.2.2.1 z.2.2.2.2.1 Q (F0 m (ry_zpc z + 1) ls (.long (ry_opL o x y) :: rest)) → W p l e R s m args below meth c H locs z.2.2.2.1 z.2.2.2.2.1 Q (F0 m (ry_zpc z) ls (.long y :: .long x :: rest)))
    (K : ∀ z_p ∈ zs, ry_G p l e R s m args below meth c Q D cl A xa nL H0 z.1.length z.2.2.1.length r ad z_p) : W p l e R s m args below meth c H locs z.2.2.2.1 z.2.2.2.2.1 Q (F0 m (ry_zpc z) ls ((ry_zst z).map (ry_iv r ad xa))) := by
  unfold ry_h_divL at hz
  split at hz
  · rename_i b t hb
    split at hz
    · rename_i hn
      refine ry_h_binL_ok hR hz (fun a b_p t_p e k => row _ _ _ ?_ k) K
      have e1 := ry_pl_ok hb
      rw [e] at e1
      cases e1
      exact ry_nzL_ok hR.1 hn
    · cases hz
  · cases hz
theorem ry_h_ineg_ok (hR : ry_R D cl A s xa nL H0 z r ad H locs ls) (hz : ry_h_ineg z = some zs)
    (row : ∀ (x : Int32) (rest : List Value), W p l e R s m args below meth c H locs z.2.2.2.1 z.2.2.2.2.1 Q (F0 m (ry_zpc z + 1) ls (.int (-x) :: rest)) → W p l e R s m args below meth c H locs z.2.2.2.1 z.2.2.2.2.1 Q (F0 m (ry_zpc z) ls (.int x :: rest)))
    (K : ∀ z_p ∈ zs, ry_G p l e R s m args below meth c Q D cl A xa nL H0 z.1.length z.2.2.1.length r ad z_p) : W p l e R s m args below meth c H locs z.2.2.2.1 z.2.2.2.2.1 Q (F0 m (ry_zpc z) ls ((ry_zst z).map (ry_iv r ad xa))) := by
  unfold ry_h_ineg at hz
  split at hz
  · rename_i a t ha
    split at hz
    · rename_i I2 e2 he
      cases hz
      have hst := ry_stsc hR
      obtain ⟨r_p, q1, q2, q3, q4, q5⟩ := ry_bin_ok hR.1 he
      rw [ry_pi_ok ha] at hst ⊢
      refine row _ _ (ry_pushI hR (fun v hv => hst v (List.mem_cons_of_mem _ hv)) q1 q2 q4 q5 ?_ (K _ List.mem_cons_self))
      show Value.int (Int32.ofInt (ry_ev r_p e2)) = _
      rw [q3, ry_ev0 hR.1]
      show Value.int (Int32.ofInt 0 - _) = _
      rw [show Int32.ofInt 0 = 0 from rfl, Int32.zero_sub]
    · cases hz
  · cases hz
theorem ry_h_i2l_ok (hR : ry_R D cl A s xa nL H0 z r ad H locs ls) (hz : ry_h_i2l z = some zs)
    (row : ∀ (x : Int32) (rest : List Value), W p l e R s m args below meth c H locs z.2.2.2.1 z.2.2.2.2.1 Q (F0 m (ry_zpc z + 1) ls (.long x.toInt64 :: rest)) → W p l e R s m args below meth c H locs z.2.2.2.1 z.2.2.2.2.1 Q (F0 m (ry_zpc z) ls (.int x :: rest)))
    (K : ∀ z_p ∈ zs, ry_G p l e R s m args below meth c Q D cl A xa nL H0 z.1.length z.2.2.1.length r ad z_p) : W p l e R s m args below meth c H locs z.2.2.2.1 z.2.2.2.2.1 Q (F0 m (ry_zpc z) ls ((ry_zst z).map (ry_iv r ad xa))) := by
  unfold ry_h_i2l at hz
  split at hz
  · rename_i a t ha
    split at hz
    · rename_i b he
      cases hz
      have hst := ry_stsc hR
      obtain ⟨lo, hi⟩ := b
      obtain ⟨h1, h2, h3, h4⟩ := ry_bi_ok hR.1 he
      rw [ry_pi_ok ha] at hst ⊢
      refine row _ _ (ry_at (K _ List.mem_cons_self) ry_same.rf ry_sameA.rf (ry_R_nx hR fun v hv => ?_) rfl rfl rfl ?_)
      · rcases List.mem_cons.mp hv with h | h
        · subst h; exact h4
        · exact hst v (List.mem_cons_of_mem _ h)
      · show Value.long (Int64.ofInt (ry_ev r a)) :: _ = Value.long (Int32.ofInt (ry_ev r a)).toInt64 :: _
        congr 2
        have h5 := ry_b32 (Int32.ofInt (ry_ev r a))
        rw [h3] at h5
        apply Int64.toInt_inj.mp
        rw [ry_i64 (by omega) (by omega), Int32.toInt_toInt64, h3]
    · cases hz
  · cases hz
theorem ry_h_dup_ok (hR : ry_R D cl A s xa nL H0 z r ad H locs ls) (hz : ry_h_dup z = some zs)
    (row : ∀ (v : Value) (rest : List Value), v.category = 1 → W p l e R s m args below meth c H locs z.2.2.2.1 z.2.2.2.2.1 Q (F0 m (ry_zpc z + 1) ls (v :: v :: rest)) → W p l e R s m args below meth c H locs z.2.2.2.1 z.2.2.2.2.1 Q (F0 m (ry_zpc z) ls (v :: rest)))
    (K : ∀ z_p ∈ zs, ry_G p l e R s m args below meth c Q D cl A xa nL H0 z.1.length z.2.2.1.length r ad z_p) : W p l e R s m args below meth c H locs z.2.2.2.1 z.2.2.2.2.1 Q (F0 m (ry_zpc z) ls ((ry_zst z).map (ry_iv r ad xa))) := by
  unfold ry_h_dup at hz
  split at hz
  · rename_i v t hv
    split at hz
    · cases hz
    · rename_i hk
      cases hz
      have hst := ry_stsc hR
      rw [ry_pv_ok hv] at hst ⊢
      refine row _ _ (ry_cat (Bool.eq_false_iff.mpr hk)) (ry_at (K _ List.mem_cons_self) ry_same.rf ry_sameA.rf (ry_R_nx hR fun x hx => ?_) rfl rfl rfl rfl)
      rcases List.mem_cons.mp hx with h | h
      · subst h; exact hst _ List.mem_cons_self
      · exact hst x h
  · cases hz
theorem ry_h_pop_ok (hR : ry_R D cl A s xa nL H0 z r ad H locs ls) (hz : ry_h_pop z = some zs)
    (row : ∀ (v : Value) (rest : List Value), v.category = 1 → W p l e R s m args below meth c H locs z.2.2.2.1 z.2.2.2.2.1 Q (F0 m (ry_zpc z + 1) ls rest) → W p l e R s m args below meth c H locs z.2.2.2.1 z.2.2.2.2.1 Q (F0 m (ry_zpc z) ls (v :: rest)))
    (K : ∀ z_p ∈ zs, ry_G p l e R s m args below meth c Q D cl A xa nL H0 z.1.length z.2.2.1.length r ad z_p) : W p l e R s m args below meth c H locs z.2.2.2.1 z.2.2.2.2.1 Q (F0 m (ry_zpc z) ls ((ry_zst z).map (ry_iv r ad xa))) := by
  unfold ry_h_pop at hz
  split at hz
  · rename_i v t hv
    split at hz
    · cases hz
    · rename_i hk
      cases hz
      have hst := ry_stsc hR
      rw [ry_pv_ok hv] at hst ⊢
      exact row _ _ (ry_cat (Bool.eq_false_iff.mpr hk)) (ry_at (K _ List.mem_cons_self) ry_same.rf ry_sameA.rf (ry_R_nx hR fun x hx => hst x (List.mem_cons_of_mem _ hx)) rfl rfl rfl rfl)
  · cases hz
theorem ry_h_dup2_ok (hR : ry_R D cl A s xa nL H0 z r ad H locs ls) (hz : ry_h_dup2 z = some zs)
    (row2 : ∀ (v : Value) (rest : List Value), v.category = 2 → W p l e R s m args below meth c H locs z.2.2.2.1 z.2.2.2.2.1 Q (F0 m (ry_zpc z + 1) ls (v :: v :: rest)) → W p l e R s m args below meth c H locs z.2.2.2.1 z.2.2.2.2.1 Q (F0 m (ry_zpc z) ls (v :: rest)))
    (row : ∀ (v w : Value) (rest : List Value), v.category = 1 → w.category = 1 → W p l e R s m args below meth c H locs z.2.2.2.1 z.2.2.2.2.1 Q (F0 m (ry_zpc z + 1) ls (v :: w :: v :: w :: rest)) → W p l e R s m args below meth c H locs z.2.2.2.1 z.2.2.2.2.1 Q (F0 m (ry_zpc z) ls (v :: w :: rest)))
    (K : ∀ z_p ∈ zs, ry_G p l e R s m args below meth c Q D cl A xa nL H0 z.1.length z.2.2.1.length r ad z_p) : W p l e R s m args below meth c H locs z.2.2.2.1 z.2.2.2.2.1 Q (F0 m (ry_zpc z) ls ((ry_zst z).map (ry_iv r ad xa))) := by
  unfold ry_h_dup2 at hz
  split at hz
  · rename_i v t hv
    have hst := ry_stsc hR
    rw [ry_pv_ok hv] at hst ⊢
    split at hz
    · rename_i hk
      cases hz
      refine row2 _ _ (ry_cat2 hk) (ry_at (K _ List.mem_cons_self) ry_same.rf ry_sameA.rf (ry_R_nx hR fun x hx => ?_) rfl rfl rfl rfl)
      rcases List.mem_cons.mp hx with h | h
      · subst h; exact hst _ List.mem_cons_self
      · exact hst x h
    · rename_i hk
      split at hz
      · rename_i w t2 hw
        have e2 := ry_pv_ok hw
        subst e2
        split at hz
        · cases hz
        · rename_i hk2
          cases hz
          refine row _ _ _ (ry_cat (Bool.eq_false_iff.mpr hk)) (ry_cat (Bool.eq_false_iff.mpr hk2)) (ry_at (K _ List.mem_cons_self) ry_same.rf ry_sameA.rf (ry_R_nx hR fun x hx => ?_) rfl rfl rfl rfl)
          rcases List.mem_cons.mp hx with h | h
          · subst h; exact hst _ List.mem_cons_self
          · rcases List.mem_cons.mp h with h | h
            · subst h; exact hst _ (List.mem_cons_of_mem _ List.mem_cons_self)
            · exact hst x h
      · cases hz
  · cases hz
theorem ry_h_iinc_ok {i : Nat} {n : Int} (hR : ry_R D cl A s xa nL H0 z r ad H locs ls) (hz : ry_h_iinc nL i n z = some zs)
    (row : ∀ (x v : Int32) (k : Nat), i < nL → (ry_lvs r ad xa (ry_zlv z))[k]? = some (i, Value.int x) → x + Int32.ofInt n = v → (∀ ls_p : Array Slot, lv_has ls_p nL ((i, Value.int v) :: (ry_lvs r ad xa (ry_zlv z)).filter (fun q => !(q.1 == i) && !(q.1 + 1 == i && q.2.category == 2))) → W p l e R s m args below meth c H locs z.2.2.2.1 z.2.2.2.2.1 Q (F0 m (ry_zpc z + 3) ls_p ((ry_zst z).map (ry_iv r ad xa)))) → W p l e R s m args below meth c H locs z.2.2.2.1 z.2.2.2.2.1 Q (F0 m (ry_zpc z) ls ((ry_zst z).map (ry_iv r ad xa))))
    (K : ∀ z_p ∈ zs, ry_G p l e R s m args below meth c Q D cl A xa nL H0 z.1.length z.2.2.1.length r ad z_p) : W p l e R s m args below meth c H locs z.2.2.2.1 z.2.2.2.2.1 Q (F0 m (ry_zpc z) ls ((ry_zst z).map (ry_iv r ad xa))) := by
  unfold ry_h_iinc at hz
  split at hz
  · rename_i e0 he
    split at hz
    · rename_i I2 e2 hb
      split at hz
      · rename_i hi
        cases hz
        obtain ⟨r_p, q1, q2, q3, q4, q5⟩ := ry_bin_ok hR.1 hb
        have hmem : (i, ry_iv r ad xa (.inr (0, e0))) ∈ ry_lvs r ad xa (ry_zlv z) := List.mem_map.mpr ⟨(i, .inr (0, e0)), ry_lk_mem he, rfl⟩
        obtain ⟨k, hk⟩ := List.getElem?_of_mem hmem
        have hv : Int32.ofInt (ry_ev r e0) + Int32.ofInt n = Int32.ofInt (ry_ev r_p e2) := by
          rw [q3, ry_ev0 hR.1]
          rfl
        refine row _ _ k hi hk hv fun ls_p hl => ?_
        have hl2 : lv_has ls_p nL (ry_lvs r_p ad xa ((i, .inr (0, e2)) :: ry_del (ry_zlv z) i)) := by
          refine ry_lv_st ?_
          rw [ry_lvs_ext (ry_lvsc hR) q1 ry_sameA.rf]
          exact hl
        refine ry_at (K _ List.mem_cons_self) q1 ry_sameA.rf ⟨q2, ry_facts_ext hR.2.1 hR.2.2.1 q1, hR.2.2.1.mono q4, hR.2.2.2.1.ext q4 q1 ry_sameA.rf, hl2, fun q hq => ?_, fun v hv => ry_sc.mono (ry_stsc hR v hv) q4 (Nat.le_refl _)⟩ rfl rfl rfl ?_
        · rcases List.mem_cons.mp hq with h | h
          · subst h; exact q5
          · exact ry_sc.mono (ry_lvsc hR q (ry_del_mem h)) q4 (Nat.le_refl _)
        · show (ry_zst z).map (ry_iv r_p ad xa) = (ry_zst z).map (ry_iv r ad xa)
          exact ry_st_ext (ry_stsc hR) q1 ry_sameA.rf
      · cases hz
    · cases hz
  · cases hz
end RYQ
end
section
noncomputable def ry_jp (I : ry_I) (F : ry_F) (z : ry_Z) (pc : Nat) (st : List ry_V) : ry_Z := match z with
  | (_, _, ht0, c0, s0, _, lv0, _) => (I, F, ht0, c0, s0, pc, lv0, st)
noncomputable def ry_way (z : ry_Z) (f : Nat × ry_E × ry_E) (pc : Nat) (st : List ry_V) : List ry_Z := match ry_bd z.1 f.2.1, ry_bd z.1 f.2.2 with
  | some (al, ah), some (bl, bh) => match ry_asm z.1 z.2.1 f.1 f.2.1 f.2.2 al ah bl bh with
    | some (I, F) => [ry_jp I F z pc st]
    | none => []
  | _, _ => [ry_jp z.1 z.2.1 z pc st]
noncomputable def ry_okI (I : ry_I) (e : ry_E) : Bool := (ry_bi I e).isSome
noncomputable def ry_okL (I : ry_I) (e : ry_E) : Bool := (ry_bl I e).isSome
noncomputable def ry_fork (z : ry_Z) (cnd : Jvm.ClassFile.Cond) (a b : ry_E) (tgt nx : Nat) (st : List ry_V) : List ry_Z :=
  ry_way z (ry_cnd cnd (ry_nm z.1 a) (ry_nm z.1 b)).1 tgt st ++ ry_way z (ry_cnd cnd (ry_nm z.1 a) (ry_nm z.1 b)).2 nx st
noncomputable def ry_off (pc : Nat) (off : Int) : Option Nat := if 0 ≤ (pc : Int) + off then some ((pc : Int) + off).toNat else none
noncomputable def ry_h_if (cnd : Jvm.ClassFile.Cond) (off : Int) (z : ry_Z) : Option (List ry_Z) := match ry_pi (ry_zst z), ry_off (ry_zpc z) off with
  | some (a, t), some tgt => if ry_okI z.1 a then some (ry_fork z cnd a (0, 0) tgt (ry_zpc z + 3) t) else none
  | _, _ => none
noncomputable def ry_h_icmp (cnd : Jvm.ClassFile.Cond) (off : Int) (z : ry_Z) : Option (List ry_Z) := match ry_pi (ry_zst z), ry_off (ry_zpc z) off with
  | some (b, t), some tgt => match ry_pi t with
    | some (a, t) => if ry_okI z.1 a && ry_okI z.1 b then some (ry_fork z cnd a b tgt (ry_zpc z + 3) t) else none
    | none => none
  | _, _ => none
noncomputable def ry_h_lcmp (nx : Except DecodeError (Instr × Nat)) (z : ry_Z) : Option (List ry_Z) := match ry_pl (ry_zst z) with
  | some (b, t) => match ry_pl t with
    | some (a, t) => match nx with
      | .ok (.ifCond cnd off, 3) => match ry_off (ry_zpc z + 1) off with
        | some tgt => if ry_okL z.1 a && ry_okL z.1 b then some (ry_fork z cnd a b tgt (ry_zpc z + 4) t) else none
        | none => none
      | _ => none
    | none => none
  | none => none
noncomputable def ry_h_goto (off : Int) (z : ry_Z) : Option (List ry_Z) := match ry_off (ry_zpc z) off with
  | some tgt => some [ry_jp z.1 z.2.1 z tgt (ry_zst z)]
  | none => none
noncomputable def ry_holds (c : Jvm.ClassFile.Cond) (x y : Int) : Prop := match c with
  | .eq => x = y
  | .ne => ¬ x = y
  | .lt => x < y
  | .ge => y ≤ x
  | .gt => y < x
  | .le => x ≤ y
theorem ry_cnd_t {c : Jvm.ClassFile.Cond} {r : Nat → Int} {a b : ry_E} (h : ry_holds c (ry_ev r a) (ry_ev r b)) : ry_fact r (ry_cnd c a b).1 ∧ (ry_cnd c a b).1.1 ≤ 3 := by
  cases c
  · exact ⟨h, Nat.le_of_ble_eq_true rfl⟩
  · exact ⟨h, Nat.le_of_ble_eq_true rfl⟩
  · exact ⟨h, Nat.le_of_ble_eq_true rfl⟩
  · exact ⟨h, Nat.le_of_ble_eq_true rfl⟩
  · exact ⟨h, Nat.le_of_ble_eq_true rfl⟩
  · exact ⟨h, Nat.le_of_ble_eq_true rfl⟩
theorem ry_cnd_f {c : Jvm.ClassFile.Cond} {r : Nat → Int} {a b : ry_E} (h : ¬ ry_holds c (ry_ev r a) (ry_ev r b)) : ry_fact r (ry_cnd c a b).2 ∧ (ry_cnd c a b).2.1 ≤ 3 := by
  cases c
  · exact ⟨h, Nat.le_of_ble_eq_true rfl⟩
  · exact ⟨Classical.not_not.mp h, Nat.le_of_ble_eq_true rfl⟩
  · exact ⟨Int.not_lt.mp h, Nat.le_of_ble_eq_true rfl⟩
  · exact ⟨Int.not_le.mp h, Nat.le_of_ble_eq_true rfl⟩
  · exact ⟨Int.not_lt.mp h, Nat.le_of_ble_eq_true rfl⟩
  · exact ⟨Int.not_le.mp h, Nat.le_of_ble_eq_true rfl⟩
theorem ry_cnd_in {c : Jvm.ClassFile.Cond} {a b : ry_E} {N : Nat} (ha : a.1 < N) (hb : b.1 < N) : ((ry_cnd c a b).1.2.1.1 < N ∧ (ry_cnd c a b).1.2.2.1 < N) ∧ ((ry_cnd c a b).2.2.1.1 < N ∧ (ry_cnd c a b).2.2.2.1 < N) := by
  cases c <;> exact ⟨⟨by first | exact ha | exact hb, by first | exact ha | exact hb⟩, ⟨by first | exact ha | exact hb, by first | exact ha | exact hb⟩⟩
section RYB
variable {p : Program} {l : Launch} {e : Env} {R : Room} {s : State} {m : MethodId} {args : Array Value} {below : List Frame} {meth : Method} {c : Code} {Q : State → Prop}
variable {D : va_G} {cl : List vw_C} {A : Nat → Prop} {xa : Nat → Nat} {nL : Nat} {H0 H : Heap} {locs : List Loc} {ls : Array Slot} {r : Nat → Int} {ad : Nat → Nat}
variable {cc : ByteArray} {z : ry_Z} {zs : List ry_Z}
theorem ry_R_jp {I : ry_I} {F : ry_F} {pc : Nat} {st : List ry_V} (hR : ry_R D cl A s xa nL H0 z r ad H locs ls) (hI : I.length = z.1.length) (hsat : ry_sat I r) (hF : ry_facts F r) (hfs : ry_fsc z.1.length F) (hs : ∀ v ∈ st, ry_sc z.1.length z.2.2.1.length v) : ry_R D cl A s xa nL H0 (ry_jp I F z pc st) r ad H locs ls := by
  obtain ⟨h1, h2, h3, h4, h5, h6, h7⟩ := hR
  refine ⟨hsat, hF, ?_, ?_, h5, ?_, ?_⟩
  · show ry_fsc I.length F
    rw [hI]; exact hfs
  · show ry_W D cl A s xa I.length z.2.2.1 r ad H0 H locs
    rw [hI]; exact h4
  · show ∀ q ∈ ry_zlv z, ry_sc I.length z.2.2.1.length q.2
    rw [hI]; exact h6
  · show ∀ v ∈ st, ry_sc I.length z.2.2.1.length v
    rw [hI]; exact hs
theorem ry_way_ok {f : Nat × ry_E × ry_E} {pc : Nat} {st : List ry_V} (hR : ry_R D cl A s xa nL H0 z r ad H locs ls) (hf : ry_fact r f) (hc : f.1 ≤ 3) (h1 : f.2.1.1 < z.1.length) (h2 : f.2.2.1 < z.1.length) (hs : ∀ v ∈ st, ry_sc z.1.length z.2.2.1.length v)
    (K : ∀ z_p ∈ ry_way z f pc st, ry_G p l e R s m args below meth c Q D cl A xa nL H0 z.1.length z.2.2.1.length r ad z_p) : W p l e R s m args below meth c H locs z.2.2.2.1 z.2.2.2.2.1 Q (F0 m pc ls (st.map (ry_iv r ad xa))) := by
  obtain ⟨k, x, y⟩ := f
  unfold ry_way at K
  dsimp only at K hc h1 h2
  split at K
  · rename_i al ah bl bh e1 e2
    have q1 := ry_bd_ok hR.1 e1
    have q2 := ry_bd_ok hR.1 e2
    obtain ⟨I2, F2, g1, g2, g3, g4, g5⟩ := ry_asm_ok (I := z.1) (F := z.2.1) hc hR.1 hR.2.1 hR.2.2.1 h1 h2 ⟨q1.1, q1.2.1⟩ ⟨q2.1, q2.2.1⟩ hf
    rw [g1] at K
    exact ry_at (K _ List.mem_cons_self) ry_same.rf ry_sameA.rf (ry_R_jp hR g5 g2 g3 g4 hs) rfl rfl rfl rfl
  · exact ry_at (K _ List.mem_cons_self) ry_same.rf ry_sameA.rf (ry_R_jp hR rfl hR.1 hR.2.1 hR.2.2.1 hs) rfl rfl rfl rfl
theorem ry_fork_ok {cnd : Jvm.ClassFile.Cond} {a b : ry_E} {tgt nx : Nat} {st : List ry_V} (hR : ry_R D cl A s xa nL H0 z r ad H locs ls) (ha : a.1 < z.1.length) (hb : b.1 < z.1.length) (hs : ∀ v ∈ st, ry_sc z.1.length z.2.2.1.length v)
    (K : ∀ z_p ∈ ry_fork z cnd a b tgt nx st, ry_G p l e R s m args below meth c Q D cl A xa nL H0 z.1.length z.2.2.1.length r ad z_p) :
    (ry_holds cnd (ry_ev r a) (ry_ev r b) → W p l e R s m args below meth c H locs z.2.2.2.1 z.2.2.2.2.1 Q (F0 m tgt ls (st.map (ry_iv r ad xa)))) ∧ (¬ ry_holds cnd (ry_ev r a) (ry_ev r b) → W p l e R s m args below meth c H locs z.2.2.2.1 z.2.2.2.2.1 Q (F0 m nx ls (st.map (ry_iv r ad xa)))) := by
  obtain ⟨a1, a2⟩ := ry_nm_ok (e := a) hR.1
  obtain ⟨b1, b2⟩ := ry_nm_ok (e := b) hR.1
  obtain ⟨⟨i1, i2⟩, i3, i4⟩ := ry_cnd_in (c := cnd) (a2 ha) (b2 hb)
  rw [← a1, ← b1]
  refine ⟨fun h => ?_, fun h => ?_⟩
  · obtain ⟨f1, f2⟩ := ry_cnd_t h
    exact ry_way_ok hR f1 f2 i1 i2 hs fun z_p hz => K z_p (List.mem_append_left _ hz)
  · obtain ⟨f1, f2⟩ := ry_cnd_f h
    exact ry_way_ok hR f1 f2 i3 i4 hs fun z_p hz => K z_p (List.mem_append_right _ hz)
theorem ry_off_ok {pc tgt : Nat} {off : Int} (h : ry_off pc off = some tgt) : (pc : Int) + off = (tgt : Int) := by
  unfold ry_off at h
  split at h
  · cases h
    omega
  · cases h
theorem ry_okI_ok {I : ry_I} {a : ry_E} (h : ry_sat I r) (ho : ry_okI I a = true) : (Int32.ofInt (ry_ev r a)).toInt = ry_ev r a ∧ a.1 < I.length := by
  unfold ry_okI at ho
  obtain ⟨b, hb⟩ := Option.isSome_iff_exists.mp ho
  obtain ⟨lo, hi⟩ := b
  exact (ry_bi_ok h hb).2.2
theorem ry_okL_ok {I : ry_I} {a : ry_E} (h : ry_sat I r) (ho : ry_okL I a = true) : (Int64.ofInt (ry_ev r a)).toInt = ry_ev r a ∧ a.1 < I.length := by
  unfold ry_okL at ho
  obtain ⟨b, hb⟩ := Option.isSome_iff_exists.mp ho
  obtain ⟨lo, hi⟩ := b
  exact (ry_bl_ok h hb).2.2
theorem ry_lv_if (hexec : p.tables.exec = Jvm.exec) (hb : c.code = cc) {k n pc : Nat} {rest : List Value} {x : Int32} {cnd : Jvm.ClassFile.Cond} {off : Int} {tgt : Nat} (hdg : decode cc pc = .ok (.ifCond cnd off, 3)) (ht : (pc : Int) + off = (tgt : Int))
    (kt : ry_holds cnd x.toInt 0 → W p l e R s m args below meth c H locs k n Q (F0 m tgt ls rest)) (kf : ¬ ry_holds cnd x.toInt 0 → W p l e R s m args below meth c H locs k n Q (F0 m (pc + 3) ls rest)) : W p l e R s m args below meth c H locs k n Q (F0 m pc ls (.int x :: rest)) := by
  have z0 : (0 : Int32).toInt = 0 := Int32.toInt_zero
  have ex : (x = 0) ↔ (x.toInt = 0) := by rw [← z0]; exact Int32.toInt_inj.symm
  have el : (x < 0) ↔ (x.toInt < 0) := by rw [Int32.lt_iff_toInt_lt, z0]
  have eg : (0 < x) ↔ (0 < x.toInt) := by rw [Int32.lt_iff_toInt_lt, z0]
  have ege : (0 ≤ x) ↔ (0 ≤ x.toInt) := by rw [Int32.le_iff_toInt_le, z0]
  have ele : (x ≤ 0) ↔ (x.toInt ≤ 0) := by rw [Int32.le_iff_toInt_le, z0]
  cases cnd
  · exact lv_if_eq hexec hb hdg ht (fun h => kt (ex.mp h)) (fun h => kf (fun q => h (ex.mpr q)))
  · exact lv_if_ne hexec hb hdg ht (fun h => kt (fun q => h (ex.mpr q))) (fun h => kf (fun q => q (ex.mp h)))
  · exact lv_if_lt hexec hb hdg ht (fun h => kt (el.mp h)) (fun h => kf (fun q => h (el.mpr q)))
  · exact lv_if_ge hexec hb hdg ht (fun h => kt (ege.mp h)) (fun h => kf (fun q => h (ege.mpr q)))
  · exact lv_if_gt hexec hb hdg ht (fun h => kt (eg.mp h)) (fun h => kf (fun q => h (eg.mpr q)))
  · exact lv_if_le hexec hb hdg ht (fun h => kt (ele.mp h)) (fun h => kf (fun q => h (ele.mpr q)))
theorem ry_lv_icmp (hexec : p.tables.exec = Jvm.exec) (hb : c.code = cc) {k n pc : Nat} {rest : List Value} {x y : Int32} {cnd : Jvm.ClassFile.Cond} {off : Int} {tgt : Nat} (hdg : decode cc pc = .ok (.if_icmp cnd off, 3)) (ht : (pc : Int) + off = (tgt : Int))
    (kt : ry_holds cnd x.toInt y.toInt → W p l e R s m args below meth c H locs k n Q (F0 m tgt ls rest)) (kf : ¬ ry_holds cnd x.toInt y.toInt → W p l e R s m args below meth c H locs k n Q (F0 m (pc + 3) ls rest)) : W p l e R s m args below meth c H locs k n Q (F0 m pc ls (.int y :: .int x :: rest)) := by
  have ex : (x = y) ↔ (x.toInt = y.toInt) := Int32.toInt_inj.symm
  have el : (x < y) ↔ (x.toInt < y.toInt) := Int32.lt_iff_toInt_lt
  have eg : (y < x) ↔ (y.toInt < x.toInt) := Int32.lt_iff_toInt_lt
  have ege : (y ≤ x) ↔ (y.toInt ≤ x.toInt) := Int32.le_iff_toInt_le
  have ele : (x ≤ y) ↔ (x.toInt ≤ y.toInt) := Int32.le_iff_toInt_le
  cases cnd
  · exact lv_icmp_eq hexec hb hdg ht (fun h => kt (ex.mp h)) (fun h => kf (fun q => h (ex.mpr q)))
  · exact lv_icmp_ne hexec hb hdg ht (fun h => kt (fun q => h (ex.mpr q))) (fun h => kf (fun q => q (ex.mp h)))
  · exact lv_icmp_lt hexec hb hdg ht (fun h => kt (el.mp h)) (fun h => kf (fun q => h (el.mpr q)))
  · exact lv_icmp_ge hexec hb hdg ht (fun h => kt (ege.mp h)) (fun h => kf (fun q => h (ege.mpr q)))
  · exact lv_icmp_gt hexec hb hdg ht (fun h => kt (eg.mp h)) (fun h => kf (fun q => h (eg.mpr q)))
  · exact lv_icmp_le hexec hb hdg ht (fun h => kt (ele.mp h)) (fun h => kf (fun q => h (ele.mpr q)))
theorem ry_h_if_ok {cnd : Jvm.ClassFile.Cond} {off : Int} (hexec : p.tables.exec = Jvm.exec) (hb : c.code = cc) (hdg : decode cc (ry_zpc z) = .ok (.ifCond cnd off, 3)) (hR : ry_R D cl A s xa nL H0 z r ad H locs ls) (hz : ry_h_if cnd off z = some zs)
    (K : ∀ z_p ∈ zs, ry_G p l e R s m args below meth c Q D cl A xa nL H0 z.1.length z.2.2.1.length r ad z_p) : W p l e R s m args below meth c H locs z.2.2.2.1 z.2.2.2.2.1 Q (F0 m (ry_zpc z) ls ((ry_zst z).map (ry_iv r ad xa))) := by
  unfold ry_h_if at hz
  split at hz
  · rename_i a t tgt ha ht
    split at hz
    · rename_i ho
      cases hz
      obtain ⟨o1, o2⟩ := ry_okI_ok hR.1 ho
      have hst := ry_stsc hR
      rw [ry_pi_ok ha] at hst ⊢
      obtain ⟨k1, k2⟩ := ry_fork_ok hR o2 (ry_pos hR.1) (fun v hv => hst v (List.mem_cons_of_mem _ hv)) K
      rw [ry_ev0 hR.1] at k1 k2
      exact ry_lv_if hexec hb hdg (ry_off_ok ht) (fun h => k1 (by rw [o1] at h; exact h)) (fun h => k2 (by rw [o1] at h; exact h))
    · cases hz
  · cases hz
theorem ry_h_icmp_ok {cnd : Jvm.ClassFile.Cond} {off : Int} (hexec : p.tables.exec = Jvm.exec) (hb : c.code = cc) (hdg : decode cc (ry_zpc z) = .ok (.if_icmp cnd off, 3)) (hR : ry_R D cl A s xa nL H0 z r ad H locs ls) (hz : ry_h_icmp cnd off z = some zs)
    (K : ∀ z_p ∈ zs, ry_G p l e R s m args below meth c Q D cl A xa nL H0 z.1.length z.2.2.1.length r ad z_p) : W p l e R s m args below meth c H locs z.2.2.2.1 z.2.2.2.2.1 Q (F0 m (ry_zpc z) ls ((ry_zst z).map (ry_iv r ad xa))) := by
  unfold ry_h_icmp at hz
  split at hz
  · rename_i b t tgt hbb ht
    split at hz
    · rename_i a t2 ha
      split at hz
      · rename_i ho
        cases hz
        rw [Bool.and_eq_true] at ho
        obtain ⟨o1, o2⟩ := ry_okI_ok hR.1 ho.1
        obtain ⟨o3, o4⟩ := ry_okI_ok hR.1 ho.2
        have hst := ry_stsc hR
        have e2 := ry_pi_ok ha
        subst e2
        rw [ry_pi_ok hbb] at hst ⊢
        obtain ⟨k1, k2⟩ := ry_fork_ok hR o2 o4 (fun v hv => hst v (List.mem_cons_of_mem _ (List.mem_cons_of_mem _ hv))) K
        exact ry_lv_icmp hexec hb hdg (ry_off_ok ht) (fun h => k1 (by rw [o1, o3] at h; exact h)) (fun h => k2 (by rw [o1, o3] at h; exact h))
      · cases hz
    · cases hz
  · cases hz
theorem ry_lcmp_holds {cnd : Jvm.ClassFile.Cond} (x y : Int64) : ry_holds cnd (lg_cmp x y).toInt 0 ↔ ry_holds cnd x.toInt y.toInt := by
  have z0 : (0 : Int32).toInt = 0 := Int32.toInt_zero
  have ex : ((lg_cmp x y).toInt = 0) ↔ (x.toInt = y.toInt) := by rw [← z0, Int32.toInt_inj, lg_cmp_eq, Int64.toInt_inj]
  cases cnd
  · exact ex
  · exact not_congr ex
  · show (lg_cmp x y).toInt < 0 ↔ x.toInt < y.toInt
    rw [← z0, ← Int32.lt_iff_toInt_lt, lg_cmp_lt, Int64.lt_iff_toInt_lt]
  · show 0 ≤ (lg_cmp x y).toInt ↔ y.toInt ≤ x.toInt
    rw [← z0, ← Int32.le_iff_toInt_le, lg_cmp_ge, Int64.le_iff_toInt_le]
  · show 0 < (lg_cmp x y).toInt ↔ y.toInt < x.toInt
    rw [← z0, ← Int32.lt_iff_toInt_lt, lg_cmp_gt, Int64.lt_iff_toInt_lt]
  · show (lg_cmp x y).toInt ≤ 0 ↔ x.toInt ≤ y.toInt
    rw [← z0, ← Int32.le_iff_toInt_le, lg_cmp_le, Int64.le_iff_toInt_le]
theorem ry_h_lcmp_ok (hexec : p.tables.exec = Jvm.exec) (hb : c.code = cc) (hdg : decode cc (ry_zpc z) = .ok (.lcmp, 1)) (hR : ry_R D cl A s xa nL H0 z r ad H locs ls) (hz : ry_h_lcmp (decode cc (ry_zpc z + 1)) z = some zs)
    (K : ∀ z_p ∈ zs, ry_G p l e R s m args below meth c Q D cl A xa nL H0 z.1.length z.2.2.1.length r ad z_p) : W p l e R s m args below meth c H locs z.2.2.2.1 z.2.2.2.2.1 Q (F0 m (ry_zpc z) ls ((ry_zst z).map (ry_iv r ad xa))) := by
  unfold ry_h_lcmp at hz
  split at hz
  · rename_i b t hbb
    split at hz
    · rename_i a t2 ha
      split at hz
      · rename_i cnd off hd2
        split at hz
        · rename_i tgt ht
          split at hz
          · rename_i ho
            cases hz
            rw [Bool.and_eq_true] at ho
            obtain ⟨o1, o2⟩ := ry_okL_ok hR.1 ho.1
            obtain ⟨o3, o4⟩ := ry_okL_ok hR.1 ho.2
            have hst := ry_stsc hR
            have e2 := ry_pl_ok ha
            subst e2
            rw [ry_pl_ok hbb] at hst ⊢
            obtain ⟨k1, k2⟩ := ry_fork_ok hR o2 o4 (fun v hv => hst v (List.mem_cons_of_mem _ (List.mem_cons_of_mem _ hv))) K
            refine W.lcmp hexec hb hdg ?_
            refine ry_lv_if hexec hb hd2 (ry_off_ok ht) (fun h => k1 ?_) (fun h => k2 ?_)
            · have h2 := (ry_lcmp_holds _ _).mp h
              rw [o1, o3] at h2
              exact h2
            · intro q
              refine h ((ry_lcmp_holds _ _).mpr ?_)
              rw [o1, o3]
              exact q
          · cases hz
        · cases hz
      · cases hz
    · cases hz
  · cases hz
theorem ry_h_goto_ok {off : Int} (hexec : p.tables.exec = Jvm.exec) (hb : c.code = cc) (hdg : decode cc (ry_zpc z) = .ok (.goto off, 3)) (hR : ry_R D cl A s xa nL H0 z r ad H locs ls) (hz : ry_h_goto off z = some zs)
    (K : ∀ z_p ∈ zs, ry_G p l e R s m args below meth c Q D cl A xa nL H0 z.1.length z.2.2.1.length r ad z_p) : W p l e R s m args below meth c H locs z.2.2.2.1 z.2.2.2.2.1 Q (F0 m (ry_zpc z) ls ((ry_zst z).map (ry_iv r ad xa))) := by
  unfold ry_h_goto at hz
  split at hz
  · rename_i tgt ht
    cases hz
    exact lv_goto hexec hb hdg (ry_off_ok ht) (ry_at (K _ List.mem_cons_self) ry_same.rf ry_sameA.rf (ry_R_jp hR rfl hR.1 hR.2.1 hR.2.2.1 (ry_stsc hR)) rfl rfl rfl rfl)
  · cases hz
end RYB
end
section
noncomputable abbrev ry_Q : Type := Nat × Nat × Nat × Bool × Bool
noncomputable def ry_tyc (ty : FieldType) : Nat := match ty with
  | .int => 0
  | .boolean => 1
  | .long => 2
  | .object _ => 3
  | .array _ => 3
  | _ => 9
noncomputable def ry_in01 (I : ry_I) (e : ry_E) : Bool := match ry_bi I e with
  | some (lo, hi) => decide (0 ≤ lo) && decide (hi ≤ 1)
  | none => false
noncomputable def ry_fit (I : ry_I) (tc : Nat) (v : ry_V) : Bool := match tc with
  | 0 => (match v with
    | .inr (0, _) => true
    | _ => false)
  | 1 => (match v with
    | .inr (0, e) => ry_in01 I e
    | _ => false)
  | 2 => (match v with
    | .inr (1, _) => true
    | _ => false)
  | 3 => (match v with
    | .inl _ => true
    | _ => false)
  | _ => false
theorem ry_in01_ok {I : ry_I} {e : ry_E} {r : Nat → Int} (h : ry_sat I r) (hf : ry_in01 I e = true) : Int32.ofInt (ry_ev r e) = 0 ∨ Int32.ofInt (ry_ev r e) = 1 := by
  unfold ry_in01 at hf
  split at hf
  · rename_i lo hi he
    obtain ⟨h1, h2, -, -⟩ := ry_bi_ok h he
    rw [Bool.and_eq_true, decide_eq_true_eq, decide_eq_true_eq] at hf
    rcases (show ry_ev r e = 0 ∨ ry_ev r e = 1 by omega) with q | q
    · exact Or.inl (by rw [q]; rfl)
    · exact Or.inr (by rw [q]; rfl)
  · exact absurd hf Bool.false_ne_true
theorem ry_fit_ok {I : ry_I} {tc : Nat} {v : ry_V} {r : Nat → Int} {ad xa : Nat → Nat} {ty : FieldType} (h : ry_sat I r) (hf : ry_fit I tc v = true) (hty : ry_tyc ty = tc) : narrow ty (ry_iv r ad xa v) = ry_iv r ad xa v ∧ fits ty (ry_iv r ad xa v) = true := by
  subst hty
  have no : ∀ {P : Prop}, false = true → P := fun q => absurd q Bool.false_ne_true
  match ty, v, hf with
  | .int, .inr (0, e), _ => exact ⟨rfl, rfl⟩
  | .int, .inl _, hf => exact no hf
  | .int, .inr (_ + 1, _), hf => exact no hf
  | .boolean, .inr (0, e), hf =>
    have h2 : ry_in01 I e = true := hf
    rcases ry_in01_ok h h2 with q | q
    · show narrow .boolean (.int (Int32.ofInt (ry_ev r e))) = .int (Int32.ofInt (ry_ev r e)) ∧ fits .boolean (.int (Int32.ofInt (ry_ev r e))) = true
      rw [q]
      exact ⟨rfl, rfl⟩
    · show narrow .boolean (.int (Int32.ofInt (ry_ev r e))) = .int (Int32.ofInt (ry_ev r e)) ∧ fits .boolean (.int (Int32.ofInt (ry_ev r e))) = true
      rw [q]
      exact ⟨rfl, rfl⟩
  | .boolean, .inl _, hf => exact no hf
  | .boolean, .inr (_ + 1, _), hf => exact no hf
  | .long, .inr (1, e), _ => exact ⟨rfl, rfl⟩
  | .long, .inl _, hf => exact no hf
  | .long, .inr (0, _), hf => exact no hf
  | .long, .inr (_ + 2, _), hf => exact no hf
  | .object _, .inl none, _ => exact ⟨rfl, rfl⟩
  | .object _, .inl (some k), _ => exact ⟨rfl, rfl⟩
  | .object _, .inr _, hf => exact no hf
  | .array _, .inl none, _ => exact ⟨rfl, rfl⟩
  | .array _, .inl (some k), _ => exact ⟨rfl, rfl⟩
  | .array _, .inr _, hf => exact no hf
  | .byte, _, hf => exact no hf
  | .char, _, hf => exact no hf
  | .short, _, hf => exact no hf
  | .float, _, hf => exact no hf
  | .double, _, hf => exact no hf
noncomputable def ry_Fok (s : State) (args : Array Value) (Ts : List Jvm.Cond) (own : String) (cl : List vw_C) (idx : Nat) (q : ry_Q) : Prop :=
  ∃ (C : String) (T : u_T) (N : Nat) (ty : Nat → FieldType), cl[q.1]? = some (C, T, N) ∧ q.2.1 < N ∧ (∀ w ∈ u_ws C T N, w ∈ Ts) ∧ (∀ k, k < N → parseFieldDescriptor (T k).2.2.1 = some (ty k)) ∧ (∀ a, a < N → ∀ b, b < N → a ≠ b → (T a).2.1 ≠ (T b).2.1) ∧
    ry_tyc (ty q.2.1) = q.2.2.1 ∧ (T q.2.1).2.2.2 = q.2.2.2.1 ∧ (q.2.2.2.1 = true → q.2.2.2.2 = false → (T q.2.1).1 = own) ∧
    ((q.2.2.2.2 = false ∧ (Jvm.Cond.fieldLink own idx (T q.2.1).1 (T q.2.1).2.1 (T q.2.1).2.2.1).before args s = true) ∨ (q.2.2.2.2 = true ∧ ∃ host : String, (Jvm.Cond.fieldLinkNest own idx (T q.2.1).1 (T q.2.1).2.1 (T q.2.1).2.2.1 host).before args s = true))
noncomputable def ry_nxh (ht : List ry_C) (z : ry_Z) (d : Nat) (st : List ry_V) : ry_Z := match z with
  | (I0, F1, _, c0, s0, pc0, lv0, _) => (I0, F1, ht, c0, s0, pc0 + d, lv0, st)
noncomputable def ry_h_get (fr : Nat → Option ry_Q) (idx : Nat) (z : ry_Z) : Option (List ry_Z) := match ry_pr (ry_zst z), fr idx with
  | some (some k, t), some q => match (z.2.2.1)[k]? with
    | some (.inl (ci, fs)) => if ci = q.1 then (match fs[q.2.1]? with
      | some (.inl v) => some [ry_nx z 3 (v :: t)]
      | _ => none) else none
    | _ => none
  | _, _ => none
noncomputable def ry_h_put (fr : Nat → Option ry_Q) (ini : Bool) (idx : Nat) (z : ry_Z) : Option (List ry_Z) := match ry_pv (ry_zst z), fr idx with
  | some (v, t), some q => match ry_pr t with
    | some (some k, t2) => match (z.2.2.1)[k]? with
      | some (.inl (ci, fs)) => if ci = q.1 ∧ q.2.1 < fs.length ∧ ry_fit z.1 q.2.2.1 v = true ∧ (q.2.2.2.1 = false ∨ (ini = true ∧ q.2.2.2.2 = false)) then some [ry_nxh ((z.2.2.1).set k (.inl (ci, fs.set q.2.1 (.inl v)))) z 3 t2] else none
      | _ => none
    | _ => none
  | _, _ => none
noncomputable def ry_pushX (z : ry_Z) (x : ry_X) (t : List ry_V) : Option (List ry_Z) := match x with
  | .inl v => some [ry_nx z 1 (v :: t)]
  | .inr _ => none
noncomputable def ry_each (z : ry_Z) (ix : ry_E) (df : ry_X) (ov : List (Nat × ry_V)) (t : List ry_V) : Nat → Int → Option (List ry_Z)
  | 0, _ => some []
  | c + 1, lo => match ry_gt ov df lo.toNat, ry_each z ix df ov t c (lo + 1) with
    | .inl v, some l => some (ry_way z (2, ix, (0, lo)) (ry_zpc z + 1) (v :: t) ++ l)
    | _, _ => none
noncomputable def ry_h_ald (okc : Nat → Bool) (z : ry_Z) : Option (List ry_Z) := match ry_pi (ry_zst z) with
  | some (ix, t) => match ry_pr t with
    | some (some k, t2) => match (z.2.2.1)[k]? with
      | some (.inr (tc, n, df, ov)) => if okc tc then (match ry_bi z.1 ix with
        | some (lo, hi) => if 0 ≤ lo ∧ hi < (n : Int) then
            (if lo = hi then ry_pushX z (ry_gt ov df lo.toNat) t2
             else if ov.all (fun q => decide ((q.1 : Int) < lo) || decide (hi < (q.1 : Int))) then ry_pushX z df t2
             else ry_each z (ry_nm z.1 ix) df ov t2 (hi - lo + 1).toNat lo)
          else none
        | none => none) else none
      | _ => none
    | _ => none
  | none => none
noncomputable def ry_ovset (ov : List (Nat × ry_V)) (df : ry_X) (j : Nat) (v : ry_V) : List (Nat × ry_V) :=
  if (Sum.inl v : ry_X) = df then ov.filter (fun q => !(q.1 == j)) else (j, v) :: ov.filter (fun q => !(q.1 == j))
noncomputable def ry_h_ast (okc : Nat → Bool) (okv : ry_I → List ry_C → Nat → ry_V → Bool) (z : ry_Z) : Option (List ry_Z) := match ry_pv (ry_zst z) with
  | some (v, t0) => match ry_pi t0 with
    | some (ix, t) => match ry_pr t with
      | some (some k, t2) => match (z.2.2.1)[k]? with
        | some (.inr (tc, n, df, ov)) => if okc tc && okv z.1 z.2.2.1 tc v then (match ry_bi z.1 ix with
          | some (lo, hi) => if 0 ≤ lo ∧ hi < (n : Int) ∧ lo = hi then some [ry_nxh ((z.2.2.1).set k (.inr (tc, n, df, ry_ovset ov df lo.toNat v))) z 1 t2] else none
          | none => none) else none
        | _ => none
      | _ => none
    | none => none
  | none => none
noncomputable def ry_h_alen (z : ry_Z) : Option (List ry_Z) := match ry_pv (ry_zst z) with
  | some (.inl (some k), t) => match (z.2.2.1)[k]? with
    | some (.inr (_, n, _, _)) => some [ry_nx z 1 (ry_n (n : Int) :: t)]
    | _ => none
  | some (.inr (2, (_, 0)), t) => some [ry_nx z 1 (.inr (0, (1, 0)) :: t)]
  | _ => none
section RYH
variable {p : Program} {l : Launch} {e : Env} {R : Room} {s : State} {m : MethodId} {args : Array Value} {below : List Frame} {meth : Method} {c : Code} {Q : State → Prop}
variable {D : va_G} {cl : List vw_C} {A : Nat → Prop} {xa : Nat → Nat} {nL : Nat} {H0 H : Heap} {locs : List Loc} {ls : Array Slot} {r : Nat → Int} {ad : Nat → Nat}
variable {cc : ByteArray} {z : ry_Z} {zs : List ry_Z}
theorem ry_W_set {N : Nat} {ht : List ry_C} {ws : va_W} {tys : List (ClassId × FieldType)} {k : Nat} {x_p : ry_C} {e_p : va_E} {H1 : Heap} {locs1 : List Loc} (hK : va_K D cl tys s) (hl : ws.length = ht.length) (hc : ∀ (k : Nat) (x : ry_C), ht[k]? = some x → ry_csc N ht.length x ∧ ∃ e : va_E, ws[k]? = some (ad k, e) ∧ ry_cell cl tys r ad xa x e)
    (hx_p : ry_csc N ht.length x_p) (he_p : ry_cell cl tys r ad xa x_p e_p) (hP1 : va_P D cl (ws.set k (ad k, e_p)) H1) (hD1 : va_D A (ws.set k (ad k, e_p))) (hS1 : va_S A H0 H1 locs1) : ry_W D cl A s xa N (ht.set k x_p) r ad H0 H1 locs1 := by
  refine ⟨ws.set k (ad k, e_p), tys, hK, hP1, hD1, hS1, by rw [List.length_set, List.length_set]; exact hl, fun j x hj => ?_⟩
  rw [List.length_set]
  by_cases hjk : j = k
  · subst hjk
    have hlt : j < ht.length := by
      have := (List.getElem?_eq_some_iff.mp hj).1
      rwa [List.length_set] at this
    rw [List.getElem?_set_self hlt] at hj
    cases hj
    exact ⟨hx_p, e_p, by rw [List.getElem?_set_self (by rw [hl]; exact hlt)], he_p⟩
  · rw [List.getElem?_set_ne (Ne.symm hjk)] at hj
    obtain ⟨h1, e2, h2, h3⟩ := hc j x hj
    exact ⟨h1, e2, by rw [List.getElem?_set_ne (Ne.symm hjk)]; exact h2, h3⟩
theorem ry_R_nxh {ht_p : List ry_C} {H1 : Heap} {locs1 : List Loc} {d : Nat} {st : List ry_V} (hR : ry_R D cl A s xa nL H0 z r ad H locs ls) (hlen : ht_p.length = (z.2.2.1).length) (hW : ry_W D cl A s xa z.1.length ht_p r ad H0 H1 locs1) (hs : ∀ v ∈ st, ry_sc z.1.length (z.2.2.1).length v) : ry_R D cl A s xa nL H0 (ry_nxh ht_p z d st) r ad H1 locs1 ls := by
  obtain ⟨h1, h2, h3, -, h5, h6, -⟩ := hR
  refine ⟨h1, h2, h3, hW, h5, ?_, ?_⟩
  · show ∀ q ∈ ry_zlv z, ry_sc z.1.length ht_p.length q.2
    rw [hlen]; exact h6
  · show ∀ v ∈ st, ry_sc z.1.length ht_p.length v
    rw [hlen]; exact hs
theorem ry_h_get_ok {fr : Nat → Option ry_Q} {idx : Nat} {Ts : List Jvm.Cond} {own : String} (hexec : p.tables.exec = Jvm.exec) (hb : c.code = cc) (hts : ∀ w ∈ Ts, w.before args s = true) (hown : s.vm.findClass own = some m.cls) (hF : ∀ q, fr idx = some q → ry_Fok s args Ts own cl idx q) (hdg : decode cc (ry_zpc z) = .ok (.getfield idx, 3))
    (hR : ry_R D cl A s xa nL H0 z r ad H locs ls) (hz : ry_h_get fr idx z = some zs)
    (K : ∀ z_p ∈ zs, ry_G p l e R s m args below meth c Q D cl A xa nL H0 z.1.length z.2.2.1.length r ad z_p) : W p l e R s m args below meth c H locs z.2.2.2.1 z.2.2.2.2.1 Q (F0 m (ry_zpc z) ls ((ry_zst z).map (ry_iv r ad xa))) := by
  unfold ry_h_get at hz
  split at hz
  · rename_i k t q hst hq
    split at hz
    · rename_i ci fs hht
      split at hz
      · rename_i hci
        split at hz
        · rename_i v hfs
          cases hz
          subst hci
          obtain ⟨ws, tys, hK, hP, hD, hS, hl, hc⟩ := id hR.2.2.2.1
          obtain ⟨hcs, e0, hw, hcell⟩ := hc k _ hht
          obtain ⟨vs, he0, hlen, hvs⟩ := hcell
          subst he0
          obtain ⟨w, hw2, hok⟩ := hvs _ _ hfs
          have hok2 : w = ry_iv r ad xa v := hok
          subst hok2
          have hsc : ry_sc z.1.length z.2.2.1.length v := hcs _ _ hfs
          have hsts := ry_stsc hR
          rw [ry_pr_ok hst] at hsts ⊢
          have kk := ry_at (K _ List.mem_cons_self) ry_same.rf ry_sameA.rf (ry_R_nx hR fun x hx => by
            rcases List.mem_cons.mp hx with h | h
            · subst h; exact hsc
            · exact hsts x (List.mem_cons_of_mem _ h)) (pc := ry_zpc z + 3) (vs := ry_iv r ad xa v :: t.map (ry_iv r ad xa)) rfl rfl rfl rfl
          obtain ⟨C, T, N, ty, f1, f2, f3, f4, f5, f6, f7, f8, f9⟩ := hF q hq
          rcases f9 with ⟨-, f9⟩ | ⟨-, host, f9⟩
          · exact va_get hexec hb hts f3 hown hK hP k hw f1 q.2.1 f2 f9 (fun _ h => h) hw2 hdg kk
          · exact va_getN hexec hb hts f3 hown hK hP k hw f1 q.2.1 f2 f9 (fun _ h => h) hw2 hdg kk
        · cases hz
      · cases hz
    · cases hz
  · cases hz
theorem ry_h_put_ok {fr : Nat → Option ry_Q} {ini : Bool} {idx : Nat} {Ts : List Jvm.Cond} {own : String} (hexec : p.tables.exec = Jvm.exec) (hb : c.code = cc) (hts : ∀ w ∈ Ts, w.before args s = true) (hown : s.vm.findClass own = some m.cls) (hini : ini = true → meth.name = "<init>") (hF : ∀ q, fr idx = some q → ry_Fok s args Ts own cl idx q) (hdg : decode cc (ry_zpc z) = .ok (.putfield idx, 3))
    (hR : ry_R D cl A s xa nL H0 z r ad H locs ls) (hz : ry_h_put fr ini idx z = some zs)
    (K : ∀ z_p ∈ zs, ry_G p l e R s m args below meth c Q D cl A xa nL H0 z.1.length z.2.2.1.length r ad z_p) : W p l e R s m args below meth c H locs z.2.2.2.1 z.2.2.2.2.1 Q (F0 m (ry_zpc z) ls ((ry_zst z).map (ry_iv r ad xa))) := by
  unfold ry_h_put at hz
  split at hz
  · rename_i v t q hst hq
    split at hz
    · rename_i k t2 hst2
      split at hz
      · rename_i ci fs hht
        split at hz
        · rename_i hcond
          obtain ⟨hci, hlt, hfit, hfin⟩ := hcond
          cases hz
          subst hci
          obtain ⟨ws, tys, hK, hP, hD, hS, hl, hc⟩ := id hR.2.2.2.1
          obtain ⟨hcs, e0, hw, hcell⟩ := hc k _ hht
          obtain ⟨vs, he0, hlen, hvs⟩ := hcell
          subst he0
          have hsts := ry_stsc hR
          have e2 := ry_pr_ok hst2
          subst e2
          rw [ry_pv_ok hst] at hsts ⊢
          obtain ⟨C, T, N, ty, f1, f2, f3, f4, f5, f6, f7, f8, f9⟩ := hF q hq
          obtain ⟨n1, n2⟩ := ry_fit_ok (ad := ad) (xa := xa) hR.1 hfit f6
          have hsv : ry_sc z.1.length z.2.2.1.length v := hsts _ List.mem_cons_self
          have kk : ∀ (H1 : Heap) (locs1 : List Loc), va_P D cl (ws.set k (ad k, .inr (q.1, vs.set q.2.1 (ry_iv r ad xa v)))) H1 → va_D A (ws.set k (ad k, .inr (q.1, vs.set q.2.1 (ry_iv r ad xa v)))) → va_S A H0 H1 locs1 → W p l e R s m args below meth c H1 locs1 z.2.2.2.1 z.2.2.2.2.1 Q (F0 m (ry_zpc z + 3) ls (t2.map (ry_iv r ad xa))) := by
            intro H1 locs1 hP1 hD1 hS1
            refine ry_at (K _ List.mem_cons_self) ry_same.rf ry_sameA.rf (ry_R_nxh hR (by rw [List.length_set]) (ry_W_set hK hl hc ?_ ?_ hP1 hD1 hS1) fun x hx => hsts x (List.mem_cons_of_mem _ (List.mem_cons_of_mem _ hx))) rfl rfl rfl rfl
            · intro j f hj
              by_cases hjk : j = q.2.1
              · subst hjk
                rw [List.getElem?_set_self hlt] at hj
                cases hj
                exact hsv
              · rw [List.getElem?_set_ne (Ne.symm hjk)] at hj
                exact hcs j f hj
            · refine ⟨_, rfl, by rw [List.length_set, List.length_set]; exact hlen, fun j f hj => ?_⟩
              by_cases hjk : j = q.2.1
              · subst hjk
                rw [List.getElem?_set_self hlt] at hj
                cases hj
                exact ⟨_, by rw [List.getElem?_set_self (by rw [hlen]; exact hlt)], rfl⟩
              · rw [List.getElem?_set_ne (Ne.symm hjk)] at hj
                obtain ⟨w, g1, g2⟩ := hvs j f hj
                exact ⟨w, by rw [List.getElem?_set_ne (Ne.symm hjk)]; exact g1, g2⟩
          rcases hfin with hfin | ⟨hi, hnest⟩
          · rcases f9 with ⟨-, f9⟩ | ⟨-, host, f9⟩
            · exact va_put hexec hb hts f3 ty f4 f5 hown hK hP hD hS k hw f1 q.2.1 f2 f9 (fun _ h => h) (by rw [f7]; exact hfin) (f4 _ f2) n1 n2 (by rw [hlen]; exact hlt) hdg kk
            · exact va_putN hexec hb hts f3 ty f4 f5 hown hK hP hD hS k hw f1 q.2.1 f2 f9 (fun _ h => h) (by rw [f7]; exact hfin) (f4 _ f2) n1 n2 (by rw [hlen]; exact hlt) hdg kk
          · rcases f9 with ⟨-, f9⟩ | ⟨f9, -⟩
            · cases hfb : q.2.2.2.1 with
              | false => exact va_put hexec hb hts f3 ty f4 f5 hown hK hP hD hS k hw f1 q.2.1 f2 f9 (fun _ h => h) (by rw [f7]; exact hfb) (f4 _ f2) n1 n2 (by rw [hlen]; exact hlt) hdg kk
              | true => exact va_putF hexec hb hts f3 ty f4 f5 hown hK hP hD hS k hw f1 q.2.1 f2 f9 (fun _ h => h) (by rw [f7]; exact hfb) (hini hi) (f8 hfb hnest) (f4 _ f2) n1 n2 (by rw [hlen]; exact hlt) hdg kk
            · rw [hnest] at f9
              exact absurd f9 Bool.false_ne_true
        · cases hz
      · cases hz
    · cases hz
  · cases hz
end RYH
end
section
noncomputable def ry_isTc (k : Nat) (tc : Nat) : Bool := tc == k
noncomputable def ry_isRef (tc : Nat) : Bool := decide (5 ≤ tc)
section RYA
variable {p : Program} {l : Launch} {e : Env} {R : Room} {s : State} {m : MethodId} {args : Array Value} {below : List Frame} {meth : Method} {c : Code} {Q : State → Prop}
variable {D : va_G} {cl : List vw_C} {A : Nat → Prop} {xa : Nat → Nat} {nL : Nat} {H0 H : Heap} {locs : List Loc} {ls : Array Slot} {r : Nat → Int} {ad : Nat → Nat}
variable {cc : ByteArray} {z : ry_Z} {zs : List ry_Z}
theorem ry_ixIn {ix : ry_E} {I : ry_I} {lo hi : Int} {n : Nat} (h : ry_sat I r) (hb : ry_bi I ix = some (lo, hi)) (h0 : 0 ≤ lo) (hn : hi < (n : Int)) : vp_in (Int32.ofInt (ry_ev r ix)) n ∧ (Int32.ofInt (ry_ev r ix)).toNatClampNeg = (ry_ev r ix).toNat ∧ lo ≤ ry_ev r ix ∧ ry_ev r ix ≤ hi ∧ ix.1 < I.length := by
  obtain ⟨h1, h2, h3, h4⟩ := ry_bi_ok h hb
  refine ⟨vp_in_iff.mpr (by rw [h3]; omega), ?_, h1, h2, h4⟩
  show (Int32.ofInt (ry_ev r ix)).toInt.toNat = _
  rw [h3]
theorem ry_pushX_ok {x : ry_X} {t : List ry_V} {w : Value} (hR : ry_R D cl A s xa nL H0 z r ad H locs ls) (hz : ry_pushX z x t = some zs) (hsc : ry_xsc z.1.length z.2.2.1.length x) (hx : ry_ok r ad xa x w) (ht : ∀ v ∈ t, ry_sc z.1.length z.2.2.1.length v)
    (K : ∀ z_p ∈ zs, ry_G p l e R s m args below meth c Q D cl A xa nL H0 z.1.length z.2.2.1.length r ad z_p) : W p l e R s m args below meth c H locs z.2.2.2.1 z.2.2.2.2.1 Q (F0 m (ry_zpc z + 1) ls (w :: t.map (ry_iv r ad xa))) := by
  unfold ry_pushX at hz
  split at hz
  · rename_i v
    cases hz
    have hw : w = ry_iv r ad xa v := hx
    subst hw
    refine ry_at (K _ List.mem_cons_self) ry_same.rf ry_sameA.rf (ry_R_nx hR fun y hy => ?_) rfl rfl rfl rfl
    rcases List.mem_cons.mp hy with h | h
    · subst h; exact hsc
    · exact ht y h
  · cases hz
theorem ry_each_ok {ix : ry_E} {df : ry_X} {ov : List (Nat × ry_V)} {t : List ry_V} (hR : ry_R D cl A s xa nL H0 z r ad H locs ls) (hix : ix.1 < z.1.length) (ht : ∀ v ∈ t, ry_sc z.1.length z.2.2.1.length v) : ∀ (k : Nat) (lo : Int) (zs : List ry_Z), ry_each z ix df ov t k lo = some zs → lo ≤ ry_ev r ix → ry_ev r ix < lo + k → (∀ j : Nat, (j : Int) = ry_ev r ix → ry_xsc z.1.length z.2.2.1.length (ry_gt ov df j)) → 0 ≤ lo →
    ∀ w : Value, ry_ok r ad xa (ry_gt ov df (ry_ev r ix).toNat) w → (∀ z_p ∈ zs, ry_G p l e R s m args below meth c Q D cl A xa nL H0 z.1.length z.2.2.1.length r ad z_p) → W p l e R s m args below meth c H locs z.2.2.2.1 z.2.2.2.2.1 Q (F0 m (ry_zpc z + 1) ls (w :: t.map (ry_iv r ad xa))) := by
  intro k
  induction k with
  | zero =>
    intro lo zs _ h1 h2
    exact absurd h2 (by omega)
  | succ k ih =>
    intro lo zs hz h1 h2 hsc h0 w hw K
    rw [ry_each] at hz
    split at hz
    · rename_i v l hv hl
      cases hz
      by_cases hq : ry_ev r ix = lo
      · have e1 : (ry_ev r ix).toNat = lo.toNat := by rw [hq]
        rw [e1, hv] at hw
        have hw2 : w = ry_iv r ad xa v := hw
        subst hw2
        have hs2 := hsc lo.toNat (by omega)
        rw [hv] at hs2
        refine ry_way_ok (st := v :: t) hR (f := (2, ix, (0, lo))) ?_ (Nat.le_of_ble_eq_true rfl) hix (ry_pos hR.1) (fun y hy => ?_) fun z_p hz_p => K z_p (List.mem_append_left _ hz_p)
        · show ry_ev r ix = ry_ev r (0, lo)
          rw [ry_ev0 hR.1]
          exact hq
        · rcases List.mem_cons.mp hy with h | h
          · subst h; exact hs2
          · exact ht y h
      · exact ih (lo + 1) l hl (by omega) (by omega) hsc (by omega) w hw fun z_p hz_p => K z_p (List.mem_append_right _ hz_p)
    · cases hz
theorem ry_gt_out {ov : List (Nat × ry_V)} {df : ry_X} {lo hi : Int} {j : Nat} (h : ov.all (fun q => decide ((q.1 : Int) < lo) || decide (hi < (q.1 : Int))) = true) (h1 : lo ≤ (j : Int)) (h2 : (j : Int) ≤ hi) : ry_gt ov df j = df := by
  unfold ry_gt
  split
  · rename_i v hv
    have := List.all_eq_true.mp h _ (ry_lk_mem hv)
    rw [Bool.or_eq_true, decide_eq_true_eq, decide_eq_true_eq] at this
    dsimp only at this
    omega
  · rfl
theorem ry_h_ald_ok {okc : Nat → Bool} (hR : ry_R D cl A s xa nL H0 z r ad H locs ls) (hz : ry_h_ald okc z = some zs)
    (row : ∀ (ws : va_W) (tys : List (ClassId × FieldType)) (k n tc t0 : Nat) (cA : ClassId) (x : ry_cont) (i : Int32) (rest : List Value), okc tc = true → va_K D cl tys s → va_P D cl ws H → ws[k]? = some (ad k, .inl (cA, n, x)) → tys[t0]? = some (cA, ry_ty cl tc) → ry_sh tc x → vp_in i n →
      W p l e R s m args below meth c H locs z.2.2.2.1 z.2.2.2.2.1 Q (F0 m (ry_zpc z + 1) ls (ry_el x i.toNatClampNeg :: rest)) → W p l e R s m args below meth c H locs z.2.2.2.1 z.2.2.2.2.1 Q (F0 m (ry_zpc z) ls (.int i :: .ref (ad k) :: rest)))
    (K : ∀ z_p ∈ zs, ry_G p l e R s m args below meth c Q D cl A xa nL H0 z.1.length z.2.2.1.length r ad z_p) : W p l e R s m args below meth c H locs z.2.2.2.1 z.2.2.2.2.1 Q (F0 m (ry_zpc z) ls ((ry_zst z).map (ry_iv r ad xa))) := by
  unfold ry_h_ald at hz
  split at hz
  · rename_i ix t hix
    split at hz
    · rename_i k t2 hk
      split at hz
      · rename_i tc n df ov hht
        split at hz
        · rename_i hokc
          split at hz
          · rename_i lo hi hbi
            split at hz
            · rename_i hrange
              obtain ⟨ws, tys, hK, hP, hD, hS, hl, hc⟩ := id hR.2.2.2.1
              obtain ⟨hcs, e0, hw, hcell⟩ := hc k _ hht
              obtain ⟨cA, t0, x, he0, htys, hsh, hel⟩ := hcell
              subst he0
              obtain ⟨i1, i2, i3, i4, i5⟩ := ry_ixIn hR.1 hbi hrange.1 hrange.2
              have hsts := ry_stsc hR
              have e2 := ry_pr_ok hk
              subst e2
              rw [ry_pi_ok hix] at hsts ⊢
              refine row ws tys k n tc t0 cA x _ _ hokc hK hP hw htys hsh i1 ?_
              rw [i2]
              have hin : (ry_ev r ix).toNat < n := by omega
              have hval := hel _ hin
              have hscv := hcs _ hin
              have ht2 : ∀ v ∈ t2, ry_sc z.1.length z.2.2.1.length v := fun v hv => hsts v (List.mem_cons_of_mem _ (List.mem_cons_of_mem _ hv))
              split at hz
              · rename_i heq
                have e3 : lo.toNat = (ry_ev r ix).toNat := by omega
                rw [e3] at hz
                exact ry_pushX_ok hR hz hscv hval ht2 K
              · split at hz
                · rename_i hall
                  have e4 : ry_gt ov df (ry_ev r ix).toNat = df := ry_gt_out hall (by omega) (by omega)
                  rw [e4] at hval hscv
                  exact ry_pushX_ok hR hz hscv hval ht2 K
                · obtain ⟨m1, m2⟩ := ry_nm_ok (e := ix) hR.1
                  refine ry_each_ok hR (m2 i5) ht2 _ lo zs hz (by rw [m1]; exact i3) (by rw [m1]; omega) (fun j hj => ?_) hrange.1 _ ?_ K
                  · have : j = (ry_ev r ix).toNat := by rw [m1] at hj; omega
                    rw [this]
                    exact hscv
                  · rw [m1]
                    exact hval
            · cases hz
          · cases hz
        · cases hz
      · cases hz
    · cases hz
  · cases hz
theorem ry_ovset_gt {ov : List (Nat × ry_V)} {df : ry_X} {j i : Nat} {v : ry_V} : ry_gt (ry_ovset ov df j v) df i = if i = j then .inl v else ry_gt ov df i := by
  have hf : ∀ (ov : List (Nat × ry_V)), ry_lk (ov.filter (fun q => !(q.1 == j))) i = if i = j then none else ry_lk ov i := by
    intro ov
    induction ov with
    | nil => by_cases h : i = j <;> simp [ry_lk, h]
    | cons q ov ih =>
      by_cases hq : q.1 = j
      · rw [List.filter_cons_of_neg (by simp [hq]), ih]
        by_cases h : i = j
        · rw [if_pos h, if_pos h]
        · rw [if_neg h, if_neg h, ry_lk, if_neg (fun z => h (by rw [← z, hq]))]
      · rw [List.filter_cons_of_pos (by simp [hq]), ry_lk, ih]
        by_cases h : i = j
        · rw [if_pos h, if_pos h, if_neg (fun z => hq (by rw [z, h]))]
        · rw [if_neg h, if_neg h, ry_lk]
  unfold ry_ovset
  by_cases hd : (Sum.inl v : ry_X) = df
  · rw [if_pos hd]
    unfold ry_gt
    rw [hf]
    by_cases h : i = j
    · rw [if_pos h, if_pos h]
      exact hd.symm
    · rw [if_neg h, if_neg h]
  · rw [if_neg hd]
    unfold ry_gt
    rw [ry_lk, hf]
    dsimp only
    by_cases h : i = j
    · rw [if_pos h.symm, if_pos h]
    · rw [if_neg (fun z => h z.symm), if_neg h, if_neg h]
theorem ry_h_ast_ok {okc : Nat → Bool} {okv : ry_I → List ry_C → Nat → ry_V → Bool} (hR : ry_R D cl A s xa nL H0 z r ad H locs ls) (hz : ry_h_ast okc okv z = some zs)
    (row : ∀ (ws : va_W) (tys : List (ClassId × FieldType)) (k n tc t0 : Nat) (cA : ClassId) (x : ry_cont) (i : Int32) (v : ry_V) (rest : List Value), okc tc = true → okv z.1 z.2.2.1 tc v = true → va_K D cl tys s → va_P D cl ws H → va_D A ws → va_S A H0 H locs → (∀ (k : Nat) (x : ry_C), z.2.2.1[k]? = some x → ∃ e : va_E, ws[k]? = some (ad k, e) ∧ ry_cell cl tys r ad xa x e) → ws[k]? = some (ad k, .inl (cA, n, x)) → tys[t0]? = some (cA, ry_ty cl tc) → ry_sh tc x → vp_in i n →
      (∀ (x_p : ry_cont) (H1 : Heap) (locs1 : List Loc), ry_sh tc x_p → (∀ j : Nat, ry_el x_p j = if j = i.toNatClampNeg then ry_iv r ad xa v else ry_el x j) → va_P D cl (ws.set k (ad k, .inl (cA, n, x_p))) H1 → va_D A (ws.set k (ad k, .inl (cA, n, x_p))) → va_S A H0 H1 locs1 → W p l e R s m args below meth c H1 locs1 z.2.2.2.1 z.2.2.2.2.1 Q (F0 m (ry_zpc z + 1) ls rest)) →
      W p l e R s m args below meth c H locs z.2.2.2.1 z.2.2.2.2.1 Q (F0 m (ry_zpc z) ls (ry_iv r ad xa v :: .int i :: .ref (ad k) :: rest)))
    (K : ∀ z_p ∈ zs, ry_G p l e R s m args below meth c Q D cl A xa nL H0 z.1.length z.2.2.1.length r ad z_p) : W p l e R s m args below meth c H locs z.2.2.2.1 z.2.2.2.2.1 Q (F0 m (ry_zpc z) ls ((ry_zst z).map (ry_iv r ad xa))) := by
  unfold ry_h_ast at hz
  split at hz
  · rename_i v tt hv
    split at hz
    · rename_i ix t hix
      split at hz
      · rename_i k t2 hk
        split at hz
        · rename_i tc n df ov hht
          split at hz
          · rename_i hok
            rw [Bool.and_eq_true] at hok
            split at hz
            · rename_i lo hi hbi
              split at hz
              · rename_i hrange
                cases hz
                obtain ⟨ws, tys, hK, hP, hD, hS, hl, hc⟩ := id hR.2.2.2.1
                obtain ⟨hcs, e0, hw, hcell⟩ := hc k _ hht
                obtain ⟨cA, t0, x, he0, htys, hsh, hel⟩ := hcell
                subst he0
                obtain ⟨i1, i2, i3, i4, i5⟩ := ry_ixIn hR.1 hbi hrange.1 hrange.2.1
                have hsts := ry_stsc hR
                have e2 := ry_pr_ok hk
                subst e2
                have e3 := ry_pi_ok hix
                subst e3
                rw [ry_pv_ok hv] at hsts ⊢
                have hj : lo.toNat = (ry_ev r ix).toNat := by omega
                refine row ws tys k n tc t0 cA x _ v _ hok.1 hok.2 hK hP hD hS (fun k x hx => (hc k x hx).2) hw htys hsh i1 fun x_p H1 locs1 hsh_p hel_p hP1 hD1 hS1 => ?_
                refine ry_at (K _ List.mem_cons_self) ry_same.rf ry_sameA.rf (ry_R_nxh hR (by rw [List.length_set]) (ry_W_set hK hl hc ?_ ?_ hP1 hD1 hS1) fun y hy => hsts y (List.mem_cons_of_mem _ (List.mem_cons_of_mem _ (List.mem_cons_of_mem _ hy)))) rfl rfl rfl rfl
                · intro j hjn
                  rw [ry_ovset_gt]
                  split
                  · exact hsts _ List.mem_cons_self
                  · exact hcs j hjn
                · refine ⟨cA, t0, x_p, rfl, htys, hsh_p, fun j hjn => ?_⟩
                  rw [ry_ovset_gt, hel_p j, i2, hj]
                  split
                  · exact rfl
                  · exact hel j hjn
              · cases hz
            · cases hz
          · cases hz
        · cases hz
      · cases hz
    · cases hz
  · cases hz
end RYA
end
section
section RYM
variable {p : Program} {l : Launch} {e : Env} {R : Room} {s : State} {m : MethodId} {args : Array Value} {below : List Frame} {meth : Method} {c : Code} {Q : State → Prop}
variable {D : va_G} {cl : List vw_C} {A : Nat → Prop} {xa : Nat → Nat} {nL : Nat} {H0 H : Heap} {locs : List Loc} {ls : Array Slot} {r : Nat → Int} {ad : Nat → Nat}
variable {cc : ByteArray} {z : ry_Z} {zs : List ry_Z}
theorem ry_isTc_ok {k tc : Nat} (h : ry_isTc k tc = true) : tc = k := by
  unfold ry_isTc at h
  exact beq_iff_eq.mp h
theorem ry_isRef_ok {tc : Nat} (h : ry_isRef tc = true) : ∃ n, tc = n + 5 := by
  unfold ry_isRef at h
  rw [decide_eq_true_eq] at h
  exact ⟨tc - 5, by omega⟩
theorem ry_iald (hexec : p.tables.exec = Jvm.exec) (hb : c.code = cc) (hdg : decode cc (ry_zpc z) = .ok (.iaload, 1)) (hR : ry_R D cl A s xa nL H0 z r ad H locs ls) (hz : ry_h_ald (ry_isTc 0) z = some zs)
    (K : ∀ z_p ∈ zs, ry_G p l e R s m args below meth c Q D cl A xa nL H0 z.1.length z.2.2.1.length r ad z_p) : W p l e R s m args below meth c H locs z.2.2.2.1 z.2.2.2.2.1 Q (F0 m (ry_zpc z) ls ((ry_zst z).map (ry_iv r ad xa))) := by
  refine ry_h_ald_ok hR hz (fun ws tys k n tc t0 cA x i rest hok hK hP hw ht hsh hin kk => ?_) K
  have h0 := ry_isTc_ok hok
  subst h0
  obtain ⟨f, hf⟩ := hsh
  subst hf
  exact va_iald hexec hb hK hP k t0 hw ht hin hdg kk
theorem ry_zald (hexec : p.tables.exec = Jvm.exec) (hb : c.code = cc) (hdg : decode cc (ry_zpc z) = .ok (.baload, 1)) (hR : ry_R D cl A s xa nL H0 z r ad H locs ls) (hz : ry_h_ald (ry_isTc 1) z = some zs)
    (K : ∀ z_p ∈ zs, ry_G p l e R s m args below meth c Q D cl A xa nL H0 z.1.length z.2.2.1.length r ad z_p) : W p l e R s m args below meth c H locs z.2.2.2.1 z.2.2.2.2.1 Q (F0 m (ry_zpc z) ls ((ry_zst z).map (ry_iv r ad xa))) := by
  refine ry_h_ald_ok hR hz (fun ws tys k n tc t0 cA x i rest hok hK hP hw ht hsh hin kk => ?_) K
  have h0 := ry_isTc_ok hok
  subst h0
  obtain ⟨f, hf⟩ := hsh
  subst hf
  exact va_zald hexec hb hK hP k t0 hw ht hin hdg kk
theorem ry_lald (hexec : p.tables.exec = Jvm.exec) (hb : c.code = cc) (hdg : decode cc (ry_zpc z) = .ok (.laload, 1)) (hR : ry_R D cl A s xa nL H0 z r ad H locs ls) (hz : ry_h_ald (ry_isTc 2) z = some zs)
    (K : ∀ z_p ∈ zs, ry_G p l e R s m args below meth c Q D cl A xa nL H0 z.1.length z.2.2.1.length r ad z_p) : W p l e R s m args below meth c H locs z.2.2.2.1 z.2.2.2.2.1 Q (F0 m (ry_zpc z) ls ((ry_zst z).map (ry_iv r ad xa))) := by
  refine ry_h_ald_ok hR hz (fun ws tys k n tc t0 cA x i rest hok hK hP hw ht hsh hin kk => ?_) K
  have h0 := ry_isTc_ok hok
  subst h0
  obtain ⟨f, hf⟩ := hsh
  subst hf
  exact va_lald hexec hb hK hP k t0 hw ht hin hdg kk
theorem ry_aald (hexec : p.tables.exec = Jvm.exec) (hb : c.code = cc) (hdg : decode cc (ry_zpc z) = .ok (.aaload, 1)) (hR : ry_R D cl A s xa nL H0 z r ad H locs ls) (hz : ry_h_ald ry_isRef z = some zs)
    (K : ∀ z_p ∈ zs, ry_G p l e R s m args below meth c Q D cl A xa nL H0 z.1.length z.2.2.1.length r ad z_p) : W p l e R s m args below meth c H locs z.2.2.2.1 z.2.2.2.2.1 Q (F0 m (ry_zpc z) ls ((ry_zst z).map (ry_iv r ad xa))) := by
  refine ry_h_ald_ok hR hz (fun ws tys k n tc t0 cA x i rest hok hK hP hw ht hsh hin kk => ?_) K
  obtain ⟨q, h0⟩ := ry_isRef_ok hok
  subst h0
  obtain ⟨f, hf⟩ := hsh
  subst hf
  exact va_aldq hexec hb hK hP k t0 hw ht hin hdg kk
theorem ry_fit_int {I : ry_I} {v : ry_V} (h : ry_fit I 0 v = true) : ∃ q : ry_E, v = .inr (0, q) := by
  match v, h with
  | .inr (0, q), _ => exact ⟨q, rfl⟩
  | .inl _, h => exact absurd (show false = true from h) Bool.false_ne_true
  | .inr (_ + 1, _), h => exact absurd (show false = true from h) Bool.false_ne_true
theorem ry_fit_bool {I : ry_I} {v : ry_V} (h : ry_fit I 1 v = true) : ∃ q : ry_E, v = .inr (0, q) ∧ ry_in01 I q = true := by
  match v, h with
  | .inr (0, q), h => exact ⟨q, rfl, h⟩
  | .inl _, h => exact absurd (show false = true from h) Bool.false_ne_true
  | .inr (_ + 1, _), h => exact absurd (show false = true from h) Bool.false_ne_true
theorem ry_fit_long {I : ry_I} {v : ry_V} (h : ry_fit I 2 v = true) : ∃ q : ry_E, v = .inr (1, q) := by
  match v, h with
  | .inr (1, q), _ => exact ⟨q, rfl⟩
  | .inl _, h => exact absurd (show false = true from h) Bool.false_ne_true
  | .inr (0, _), h => exact absurd (show false = true from h) Bool.false_ne_true
  | .inr (_ + 2, _), h => exact absurd (show false = true from h) Bool.false_ne_true
theorem ry_iast (hexec : p.tables.exec = Jvm.exec) (hb : c.code = cc) (hdg : decode cc (ry_zpc z) = .ok (.iastore, 1)) (hR : ry_R D cl A s xa nL H0 z r ad H locs ls) (hz : ry_h_ast (ry_isTc 0) (fun I _ _ v => ry_fit I 0 v) z = some zs)
    (K : ∀ z_p ∈ zs, ry_G p l e R s m args below meth c Q D cl A xa nL H0 z.1.length z.2.2.1.length r ad z_p) : W p l e R s m args below meth c H locs z.2.2.2.1 z.2.2.2.2.1 Q (F0 m (ry_zpc z) ls ((ry_zst z).map (ry_iv r ad xa))) := by
  refine ry_h_ast_ok hR hz (fun ws tys k n tc t0 cA x i v rest hok hov hK hP hD hS hcs hw ht hsh hin kk => ?_) K
  have h0 := ry_isTc_ok hok
  subst h0
  obtain ⟨f, hf⟩ := hsh
  subst hf
  obtain ⟨q, hq⟩ := ry_fit_int hov
  subst hq
  refine va_iast hexec hb hK hP hD hS k t0 hw ht hin hdg fun H1 locs1 hP1 hD1 hS1 => kk (.inl _) H1 locs1 ⟨_, rfl⟩ (fun j => ?_) hP1 hD1 hS1
  show Value.int (upd f i.toNatClampNeg (Int32.ofInt (ry_ev r q)) j) = _
  unfold upd
  by_cases hj : j = i.toNatClampNeg
  · rw [if_pos hj, if_pos hj]; rfl
  · rw [if_neg hj, if_neg hj]; rfl
theorem ry_zast (hexec : p.tables.exec = Jvm.exec) (hb : c.code = cc) (hdg : decode cc (ry_zpc z) = .ok (.bastore, 1)) (hR : ry_R D cl A s xa nL H0 z r ad H locs ls) (hz : ry_h_ast (ry_isTc 1) (fun I _ _ v => ry_fit I 1 v) z = some zs)
    (K : ∀ z_p ∈ zs, ry_G p l e R s m args below meth c Q D cl A xa nL H0 z.1.length z.2.2.1.length r ad z_p) : W p l e R s m args below meth c H locs z.2.2.2.1 z.2.2.2.2.1 Q (F0 m (ry_zpc z) ls ((ry_zst z).map (ry_iv r ad xa))) := by
  refine ry_h_ast_ok hR hz (fun ws tys k n tc t0 cA x i v rest hok hov hK hP hD hS hcs hw ht hsh hin kk => ?_) K
  have h0 := ry_isTc_ok hok
  subst h0
  obtain ⟨f, hf⟩ := hsh
  subst hf
  obtain ⟨q, hq, h01⟩ := ry_fit_bool hov
  subst hq
  have hnar : vp_nar .boolean (Int32.ofInt (ry_ev r q)) = Int32.ofInt (ry_ev r q) := by
    rcases ry_in01_ok hR.1 h01 with h | h <;> (rw [h]; rfl)
  refine va_zast hexec hb hK hP hD hS k t0 hw ht hin hdg fun H1 locs1 hP1 hD1 hS1 => kk (.inl _) H1 locs1 ⟨_, rfl⟩ (fun j => ?_) hP1 hD1 hS1
  show Value.int (upd f i.toNatClampNeg (vp_nar .boolean (Int32.ofInt (ry_ev r q))) j) = _
  rw [hnar]
  unfold upd
  by_cases hj : j = i.toNatClampNeg
  · rw [if_pos hj, if_pos hj]; rfl
  · rw [if_neg hj, if_neg hj]; rfl
theorem ry_last (hexec : p.tables.exec = Jvm.exec) (hb : c.code = cc) (hdg : decode cc (ry_zpc z) = .ok (.lastore, 1)) (hR : ry_R D cl A s xa nL H0 z r ad H locs ls) (hz : ry_h_ast (ry_isTc 2) (fun I _ _ v => ry_fit I 2 v) z = some zs)
    (K : ∀ z_p ∈ zs, ry_G p l e R s m args below meth c Q D cl A xa nL H0 z.1.length z.2.2.1.length r ad z_p) : W p l e R s m args below meth c H locs z.2.2.2.1 z.2.2.2.2.1 Q (F0 m (ry_zpc z) ls ((ry_zst z).map (ry_iv r ad xa))) := by
  refine ry_h_ast_ok hR hz (fun ws tys k n tc t0 cA x i v rest hok hov hK hP hD hS hcs hw ht hsh hin kk => ?_) K
  have h0 := ry_isTc_ok hok
  subst h0
  obtain ⟨f, hf⟩ := hsh
  subst hf
  obtain ⟨q, hq⟩ := ry_fit_long hov
  subst hq
  refine va_last hexec hb hK hP hD hS k t0 hw ht hin hdg fun H1 locs1 hP1 hD1 hS1 => kk (.inr (.inl _)) H1 locs1 ⟨_, rfl⟩ (fun j => ?_) hP1 hD1 hS1
  show Value.long (vp_updL f i.toNatClampNeg (Int64.ofInt (ry_ev r q)) j) = _
  unfold vp_updL
  by_cases hj : j = i.toNatClampNeg
  · rw [if_pos hj, if_pos hj]; rfl
  · rw [if_neg hj, if_neg hj]; rfl
noncomputable def ry_fitA (I : ry_I) (ht : List ry_C) (tc : Nat) (v : ry_V) : Bool := match v with
  | .inl (some k) => (match ht[k]? with
    | some (.inl (ci, _)) => tc == ci + 5
    | _ => false)
  | _ => false
theorem ry_fitA_ok {I : ry_I} {ht : List ry_C} {tc : Nat} {v : ry_V} (h : ry_fitA I ht tc v = true) : ∃ (k ci : Nat) (fs : List ry_X), v = .inl (some k) ∧ ht[k]? = some (.inl (ci, fs)) ∧ tc = ci + 5 := by
  unfold ry_fitA at h
  split at h
  · rename_i k
    split at h
    · rename_i ci fs he
      exact ⟨k, ci, fs, rfl, he, beq_iff_eq.mp h⟩
    · exact absurd h Bool.false_ne_true
  · exact absurd h Bool.false_ne_true
theorem ry_aast (hexec : p.tables.exec = Jvm.exec) (hb : c.code = cc) (hdg : decode cc (ry_zpc z) = .ok (.aastore, 1)) (hR : ry_R D cl A s xa nL H0 z r ad H locs ls) (hz : ry_h_ast ry_isRef ry_fitA z = some zs)
    (K : ∀ z_p ∈ zs, ry_G p l e R s m args below meth c Q D cl A xa nL H0 z.1.length z.2.2.1.length r ad z_p) : W p l e R s m args below meth c H locs z.2.2.2.1 z.2.2.2.2.1 Q (F0 m (ry_zpc z) ls ((ry_zst z).map (ry_iv r ad xa))) := by
  refine ry_h_ast_ok hR hz (fun ws tys k n tc t0 cA x i v rest hok hov hK hP hD hS hcs hw ht hsh hin kk => ?_) K
  obtain ⟨kv, ci, fs, hv, hkv, htc⟩ := ry_fitA_ok hov
  subst hv; subst htc
  obtain ⟨f, hf⟩ := hsh
  subst hf
  obtain ⟨e1, hwv, vs, he1, -, -⟩ := hcs kv _ hkv
  subst he1
  obtain ⟨r0, hr0, -⟩ := hP kv _ hwv
  have ht2 : tys[t0]? = some (cA, .object r0.1) := by
    rw [ht]
    show some (cA, FieldType.object ((cl[ci]?).elim "" (fun q => q.1))) = _
    rw [show cl[ci]? = some r0 from hr0]
    rfl
  refine va_astq hexec hb hK hP hD hS k t0 kv ci hw ht2 hwv hr0 hin hdg fun H1 locs1 hP1 hD1 hS1 => kk (.inr (.inr (.inr (.inr _)))) H1 locs1 ⟨_, rfl⟩ (fun j => ?_) hP1 hD1 hS1
  show va_rf (va_up f i.toNatClampNeg (some (ad kv)) j) = _
  unfold va_up
  by_cases hj : j = i.toNatClampNeg
  · rw [if_pos hj, if_pos hj]; rfl
  · rw [if_neg hj, if_neg hj]; rfl
theorem ry_alen_ok {b : Nat → Int} {bs L : Nat} {xs : Nat → Int32} (hexec : p.tables.exec = Jvm.exec) (hb : c.code = cc) (hdg : decode cc (ry_zpc z) = .ok (.arraylength, 1)) (hR : ry_R D cl A s xa nL H0 z r ad H locs ls) (hz : ry_h_alen z = some zs)
    (hscr : ry_zst z = ry_zst z → ∀ t, (∃ n, ry_zst z = .inr (2, (n, 0)) :: t) → va_X (xa 0) L xs s H0 ∧ xa 0 < H0.size ∧ ¬ A (xa 0) ∧ r 1 = (L : Int))
    (K : ∀ z_p ∈ zs, ry_G p l e R s m args below meth c Q D cl A xa nL H0 z.1.length z.2.2.1.length r ad z_p) : W p l e R s m args below meth c H locs z.2.2.2.1 z.2.2.2.2.1 Q (F0 m (ry_zpc z) ls ((ry_zst z).map (ry_iv r ad xa))) := by
  unfold ry_h_alen at hz
  split at hz
  · rename_i k t hst
    split at hz
    · rename_i tc n df ov hht
      cases hz
      obtain ⟨ws, tys, hK, hP, hD, hS, hl, hc⟩ := id hR.2.2.2.1
      obtain ⟨hcs, e0, hw, hcell⟩ := hc k _ hht
      obtain ⟨cA, t0, x, he0, htys, hsh, hel⟩ := hcell
      subst he0
      have hsts := ry_stsc hR
      rw [ry_pv_ok hst] at hsts ⊢
      refine va_alen (v := Int32.ofInt (n : Int)) hexec hb hK hP k t0 hw htys (by rw [Int32.ofInt_eq_ofNat]) hdg ?_
      refine ry_at (K _ List.mem_cons_self) ry_same.rf ry_sameA.rf (ry_R_nx hR fun y hy => ?_) rfl rfl rfl ?_
      · rcases List.mem_cons.mp hy with h | h
        · subst h; exact ry_sc0 hR 0 _
        · exact hsts y (List.mem_cons_of_mem _ h)
      · show ry_iv r ad xa (ry_n (n : Int)) :: _ = _
        rw [ry_n_iv hR.1]
    · cases hz
  · rename_i n t hst
    cases hz
    have hsts := ry_stsc hR
    have est := ry_pv_ok hst
    obtain ⟨hX, hbl, hbA, hrL⟩ := hscr rfl t ⟨n, est⟩
    obtain ⟨ws, tys, hK, hP, hD, hS, hl, hc⟩ := id hR.2.2.2.1
    rw [est] at hsts ⊢
    refine va_slen hexec hb hX hbl hbA hS hdg ?_
    refine ry_at (K _ List.mem_cons_self) ry_same.rf ry_sameA.rf (ry_R_nx hR fun y hy => ?_) rfl rfl rfl ?_
    · rcases List.mem_cons.mp hy with h | h
      · subst h; exact Nat.lt_of_lt_of_le (Nat.le_of_ble_eq_true rfl) hR.1.2.1
      · exact hsts y (List.mem_cons_of_mem _ h)
    · show Value.int (Int32.ofInt (r 1 + 0)) :: _ = _
      rw [hrL, Int.add_zero, Int32.ofInt_eq_ofNat]
  · cases hz
end RYM
end
