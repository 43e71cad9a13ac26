/-! A REFLECTED MACHINE, part 4: plain instructions, a handler each -/
def ry_pi (st : List ry_V) : Option (ry_E × List ry_V) := match st with
  | .inr (0, e) :: t => some (e, t)
  | _ => none
def ry_pl (st : List ry_V) : Option (ry_E × List ry_V) := match st with
  | .inr (1, e) :: t => some (e, t)
  | _ => none
def ry_pr (st : List ry_V) : Option (Option Nat × List ry_V) := match st with
  | .inl o :: t => some (o, t)
  | _ => none
def ry_pv (st : List ry_V) : Option (ry_V × List ry_V) := match st with
  | v :: t => some (v, t)
  | [] => none
theorem ry_pi_ok {st t : List ry_V} {e : ry_E} (h : ry_pi st = some (e, t)) : st = .inr (0, e) :: t := by
  match st, h with
  | [], h => exact absurd (show (none : Option (ry_E × List ry_V)) = some (e, t) from h) (fun q => by cases q)
  | .inl _ :: _, h => exact absurd (show (none : Option (ry_E × List ry_V)) = some (e, t) from h) (fun q => by cases q)
  | .inr (0, e0) :: t0, h =>
    have h2 : some (e0, t0) = some (e, t) := h
    cases h2
    rfl
  | .inr (_ + 1, _) :: _, h => exact absurd (show (none : Option (ry_E × List ry_V)) = some (e, t) from h) (fun q => by cases q)
theorem ry_pl_ok {st t : List ry_V} {e : ry_E} (h : ry_pl st = some (e, t)) : st = .inr (1, e) :: t := by
  match st, h with
  | [], h => exact absurd (show (none : Option (ry_E × List ry_V)) = some (e, t) from h) (fun q => by cases q)
  | .inl _ :: _, h => exact absurd (show (none : Option (ry_E × List ry_V)) = some (e, t) from h) (fun q => by cases q)
  | .inr (0, _) :: _, h => exact absurd (show (none : Option (ry_E × List ry_V)) = some (e, t) from h) (fun q => by cases q)
  | .inr (1, e0) :: t0, h =>
    have h2 : some (e0, t0) = some (e, t) := h
    cases h2
    rfl
  | .inr (_ + 2, _) :: _, h => exact absurd (show (none : Option (ry_E × List ry_V)) = some (e, t) from h) (fun q => by cases q)
theorem ry_pr_ok {st t : List ry_V} {o : Option Nat} (h : ry_pr st = some (o, t)) : st = .inl o :: t := by
  match st, h with
  | [], h => exact absurd (show (none : Option (Option Nat × List ry_V)) = some (o, t) from h) (fun q => by cases q)
  | .inl o0 :: t0, h =>
    have h2 : some (o0, t0) = some (o, t) := h
    cases h2
    rfl
  | .inr _ :: _, h => exact absurd (show (none : Option (Option Nat × List ry_V)) = some (o, t) from h) (fun q => by cases q)
theorem ry_pv_ok {st t : List ry_V} {v : ry_V} (h : ry_pv st = some (v, t)) : st = v :: t := by
  match st, h with
  | [], h => exact absurd (show (none : Option (ry_V × List ry_V)) = some (v, t) from h) (fun q => by cases q)
  | v0 :: t0, h =>
    have h2 : some (v0, t0) = some (v, t) := h
    cases h2
    rfl
def ry_zst (z : ry_Z) : List ry_V := z.2.2.2.2.2.2.2
def ry_zlv (z : ry_Z) : List (Nat × ry_V) := z.2.2.2.2.2.2.1
def ry_zpc (z : ry_Z) : Nat := z.2.2.2.2.2.1
/-- the state further on, with this stack -/
def ry_nx (z : ry_Z) (d : Nat) (st : List ry_V) : ry_Z := match z with
  | (I0, F1, ht0, c0, s0, pc0, lv0, _) => (I0, F1, ht0, c0, s0, pc0 + d, lv0, st)
def ry_nxI (I : ry_I) (z : ry_Z) (d : Nat) (st : List ry_V) : ry_Z := match z with
  | (_, F1, ht0, c0, s0, pc0, lv0, _) => (I, F1, ht0, c0, s0, pc0 + d, lv0, st)
def ry_nxl (lv : List (Nat × ry_V)) (z : ry_Z) (d : Nat) (st : List ry_V) : ry_Z := match z with
  | (I0, F1, ht0, c0, s0, pc0, _, _) => (I0, F1, ht0, c0, s0, pc0 + d, lv, st)
section RYP
variable {p : Program} {l : Launch} {e : Env} {R : Room} {s : State} {m : MethodId} {args : Array Value} {below : List Frame} {meth : Method} {c : Code} {Q : State → Prop}
variable {D : va_G} {cl : List vw_C} {A : Nat → Prop} {xa : Nat → Nat} {nL : Nat} {H0 H : Heap} {locs : List Loc} {ls : Array Slot} {r : Nat → Int} {ad : Nat → Nat}
variable {cc : ByteArray} {z : ry_Z} {zs : List ry_Z}
theorem ry_at {N M : Nat} {z_p : ry_Z} {r_p : Nat → Int} {ad' : Nat → Nat} {H' : Heap} {locs' : List Loc} {ls' : Array Slot} {pc k n : Nat} {vs : List Value} (K : ry_G p l e R s m args below meth c Q D cl A xa nL H0 N M r ad z_p) (hr : ry_same N r r_p) (ha : ry_sameA M ad ad') (hR : ry_R D cl A s xa nL H0 z_p r_p ad' H' locs' ls')
    (hpc : ry_zpc z_p = pc) (hk : z_p.2.2.2.1 = k) (hn : z_p.2.2.2.2.1 = n) (hvs : (ry_zst z_p).map (ry_iv r_p ad' xa) = vs)
    (hN : N ≤ z_p.1.length := by first | exact Nat.le_refl _ | assumption | (apply Nat.le_of_eq; symm; assumption) | (unfold ry_nxa; simp)) (hM : M ≤ z_p.2.2.1.length := by first | exact Nat.le_refl _ | assumption | (unfold ry_nxa; simp) | (unfold ry_nxh; simp)) : W p l e R s m args below meth c H' locs' k n Q (F0 m pc ls' vs) := by
  subst hpc; subst hk; subst hn; subst hvs
  exact K r_p ad' H' locs' ls' hN hM hr ha hR
theorem ry_stsc (hR : ry_R D cl A s xa nL H0 z r ad H locs ls) : ∀ v ∈ ry_zst z, ry_sc z.1.length z.2.2.1.length v := hR.2.2.2.2.2.2
theorem ry_lvsc (hR : ry_R D cl A s xa nL H0 z r ad H locs ls) : ∀ q ∈ ry_zlv z, ry_sc z.1.length z.2.2.1.length q.2 := hR.2.2.2.2.2.1
theorem ry_lvh (hR : ry_R D cl A s xa nL H0 z r ad H locs ls) : lv_has ls nL (ry_lvs r ad xa (ry_zlv z)) := hR.2.2.2.2.1
theorem ry_R_nx {d : Nat} {st : List ry_V} (hR : ry_R D cl A s xa nL H0 z r ad H locs ls) (hs : ∀ v ∈ st, ry_sc z.1.length z.2.2.1.length v) : ry_R D cl A s xa nL H0 (ry_nx z d st) r ad H locs ls :=
  ⟨hR.1, hR.2.1, hR.2.2.1, hR.2.2.2.1, hR.2.2.2.2.1, hR.2.2.2.2.2.1, hs⟩
theorem ry_R_nxl {d : Nat} {st : List ry_V} {lv : List (Nat × ry_V)} {ls' : Array Slot} (hR : ry_R D cl A s xa nL H0 z r ad H locs ls) (hl : lv_has ls' nL (ry_lvs r ad xa lv)) (hq : ∀ q ∈ lv, ry_sc z.1.length z.2.2.1.length q.2) (hs : ∀ v ∈ st, ry_sc z.1.length z.2.2.1.length v) : ry_R D cl A s xa nL H0 (ry_nxl lv z d st) r ad H locs ls' :=
  ⟨hR.1, hR.2.1, hR.2.2.1, hR.2.2.2.1, hl, hq, hs⟩
theorem ry_fsc.mono {N N' : Nat} {F : ry_F} (h : ry_fsc N F) (hN : N ≤ N') : ry_fsc N' F := fun f hf => ⟨Nat.lt_of_lt_of_le (h f hf).1 hN, Nat.lt_of_lt_of_le (h f hf).2 hN⟩
theorem ry_R_nxI {d : Nat} {st : List ry_V} {I : ry_I} {r_p : Nat → Int} (hR : ry_R D cl A s xa nL H0 z r ad H locs ls) (hI : z.1.length ≤ I.length) (hr : ry_same z.1.length r r_p) (hsat : ry_sat I r_p) (hs : ∀ v ∈ st, ry_sc I.length z.2.2.1.length v) : ry_R D cl A s xa nL H0 (ry_nxI I z d st) r_p ad H locs ls :=
  ⟨hsat, ry_facts_ext hR.2.1 hR.2.2.1 hr, hR.2.2.1.mono hI, hR.2.2.2.1.ext hI hr ry_sameA.rf, by
    have h := ry_lvh hR
    show lv_has ls nL (ry_lvs r_p ad xa (ry_zlv z))
    rw [ry_lvs_ext (ry_lvsc hR) hr ry_sameA.rf]
    exact h, fun q hq => ry_sc.mono (ry_lvsc hR q hq) hI (Nat.le_refl _), hs⟩
theorem ry_n_iv {I : ry_I} (hs : ry_sat I r) (n : Int) : ry_iv r ad xa (ry_n n) = .int (Int32.ofInt n) := by
  show Value.int (Int32.ofInt (ry_ev r (0, n))) = _
  rw [ry_ev0 hs]
theorem ry_nL_iv {I : ry_I} (hs : ry_sat I r) (n : Int) : ry_iv r ad xa (.inr (1, (0, n))) = .long (Int64.ofInt n) := by
  show Value.long (Int64.ofInt (ry_ev r (0, n))) = _
  rw [ry_ev0 hs]
theorem ry_sc0 (hR : ry_R D cl A s xa nL H0 z r ad H locs ls) (k : Nat) (n : Int) : ry_sc z.1.length z.2.2.1.length (.inr (k, (0, n))) := ry_pos hR.1
/-- a value comes on top -/
theorem ry_push {v : ry_V} {w : Value} {d : Nat} (hR : ry_R D cl A s xa nL H0 z r ad H locs ls) (hv : ry_iv r ad xa v = w) (hsc : ry_sc z.1.length z.2.2.1.length v)
    (K : ry_G p l e R s m args below meth c Q D cl A xa nL H0 z.1.length z.2.2.1.length r ad (ry_nx z d (v :: ry_zst z))) : W p l e R s m args below meth c H locs z.2.2.2.1 z.2.2.2.2.1 Q (F0 m (ry_zpc z + d) ls (w :: (ry_zst z).map (ry_iv r ad xa))) := by
  refine ry_at K ry_same.rf ry_sameA.rf (ry_R_nx hR fun x hx => ?_) rfl rfl rfl (by rw [← hv]; rfl)
  rcases List.mem_cons.mp hx with h | h
  · subst h; exact hsc
  · exact ry_stsc hR x h
end RYP
def ry_h_push (v : ry_V) (d : Nat) (z : ry_Z) : Option (List ry_Z) := some [ry_nx z d (v :: ry_zst z)]
def ry_h_load (kd i d : Nat) (z : ry_Z) : Option (List ry_Z) := match ry_lk (ry_zlv z) i with
  | some (.inr (j, e)) => if j = kd then some [ry_nx z d (.inr (j, e) :: ry_zst z)] else none
  | _ => none
def ry_h_loadA (i d : Nat) (z : ry_Z) : Option (List ry_Z) := match ry_lk (ry_zlv z) i with
  | some (.inl o) => some [ry_nx z d (.inl o :: ry_zst z)]
  | some (.inr (j + 2, e)) => some [ry_nx z d (.inr (j + 2, e) :: ry_zst z)]
  | _ => none
def ry_h_istore (nL i d : Nat) (z : ry_Z) : Option (List ry_Z) := match ry_pi (ry_zst z) with
  | some (e, t) => if i < nL then some [ry_nxl ((i, .inr (0, e)) :: ry_del (ry_zlv z) i) z d t] else none
  | none => none
def ry_h_lstore (nL i d : Nat) (z : ry_Z) : Option (List ry_Z) := match ry_pl (ry_zst z) with
  | some (e, t) => if i + 1 < nL then some [ry_nxl ((i, .inr (1, e)) :: ry_del2 (ry_zlv z) i) z d t] else none
  | none => none
def ry_h_astore (nL i d : Nat) (z : ry_Z) : Option (List ry_Z) := match ry_pr (ry_zst z) with
  | some (o, t) => if i < nL then some [ry_nxl ((i, .inl o) :: ry_del (ry_zlv z) i) z d t] else none
  | none => none
def ry_h_iinc (nL i : Nat) (n : Int) (z : ry_Z) : Option (List ry_Z) := match ry_lk (ry_zlv z) i with
  | some (.inr (0, e)) => match ry_bin 0 z.1 e (0, n) with
    | some (I, e2) => if i < nL then some [(I, z.2.1, z.2.2.1, z.2.2.2.1, z.2.2.2.2.1, ry_zpc z + 3, (i, .inr (0, e2)) :: ry_del (ry_zlv z) i, ry_zst z)] else none
    | none => none
  | _ => none
def ry_h_bin (o : Nat) (z : ry_Z) : Option (List ry_Z) := match ry_pi (ry_zst z) with
  | some (b, t) => match ry_pi t with
    | some (a, t) => match ry_bin o z.1 a b with
      | some (I, e) => some [ry_nxI I z 1 (.inr (0, e) :: t)]
      | none => none
    | none => none
  | none => none
/-- a divisor whose bounds shut 0 out -/
def ry_nz (b : Option (Int × Int)) : Bool := match b with
  | some (lo, hi) => decide (0 < lo) || decide (hi < 0)
  | none => false
def ry_h_div (o : Nat) (z : ry_Z) : Option (List ry_Z) := match ry_pi (ry_zst z) with
  | some (b, t) => if ry_nz (ry_bi z.1 b) then ry_h_bin o z else none
  | none => none
def ry_h_binL (o : Nat) (z : ry_Z) : Option (List ry_Z) := match ry_pl (ry_zst z) with
  | some (b, t) => match ry_pl t with
    | some (a, t) => some [ry_nxI (ry_binL o z.1 a b).1 z 1 (.inr (1, (ry_binL o z.1 a b).2) :: t)]
    | none => none
  | none => none
def ry_h_divL (o : Nat) (z : ry_Z) : Option (List ry_Z) := match ry_pl (ry_zst z) with
  | some (b, t) => if ry_nz (ry_bl z.1 b) then ry_h_binL o z else none
  | none => none
def ry_h_ineg (z : ry_Z) : Option (List ry_Z) := match ry_pi (ry_zst z) with
  | some (a, t) => match ry_bin 1 z.1 (0, 0) a with
    | some (I, e) => some [ry_nxI I z 1 (.inr (0, e) :: t)]
    | none => none
  | none => none
def ry_h_i2l (z : ry_Z) : Option (List ry_Z) := match ry_pi (ry_zst z) with
  | some (a, t) => match ry_bi z.1 a with
    | some _ => some [ry_nx z 1 (.inr (1, a) :: t)]
    | none => none
  | none => none
def ry_h_dup (z : ry_Z) : Option (List ry_Z) := match ry_pv (ry_zst z) with
  | some (v, t) => if ry_k2 v then none else some [ry_nx z 1 (v :: v :: t)]
  | none => none
def ry_h_pop (z : ry_Z) : Option (List ry_Z) := match ry_pv (ry_zst z) with
  | some (v, t) => if ry_k2 v then none else some [ry_nx z 1 t]
  | none => none
def ry_h_dup2 (z : ry_Z) : Option (List ry_Z) := match ry_pv (ry_zst z) with
  | some (v, t) => if ry_k2 v then some [ry_nx z 1 (v :: v :: t)] else match ry_pv t with
    | some (w, t) => if ry_k2 w then none else some [ry_nx z 1 (v :: w :: v :: w :: t)]
    | none => none
  | none => none
section RYQ
variable {p : Program} {l : Launch} {e : Env} {R : Room} {s : State} {m : MethodId} {args : Array Value} {below : List Frame} {meth : Method} {c : Code} {Q : State → Prop}
variable {D : va_G} {cl : List vw_C} {A : Nat → Prop} {xa : Nat → Nat} {nL : Nat} {H0 H : Heap} {locs : List Loc} {ls : Array Slot} {r : Nat → Int} {ad : Nat → Nat}
variable {cc : ByteArray} {z : ry_Z} {zs : List ry_Z}
theorem ry_h_push_ok {v : ry_V} {w : Value} {d : Nat} (hR : ry_R D cl A s xa nL H0 z r ad H locs ls) (hz : ry_h_push v d z = some zs) (hv : ry_iv r ad xa v = w) (hsc : ry_sc z.1.length z.2.2.1.length v)
    (row : W p l e R s m args below meth c H locs z.2.2.2.1 z.2.2.2.2.1 Q (F0 m (ry_zpc z + d) ls (w :: (ry_zst z).map (ry_iv r ad xa))) → W p l e R s m args below meth c H locs z.2.2.2.1 z.2.2.2.2.1 Q (F0 m (ry_zpc z) ls ((ry_zst z).map (ry_iv r ad xa))))
    (K : ∀ z_p ∈ zs, ry_G p l e R s m args below meth c Q D cl A xa nL H0 z.1.length z.2.2.1.length r ad z_p) : W p l e R s m args below meth c H locs z.2.2.2.1 z.2.2.2.2.1 Q (F0 m (ry_zpc z) ls ((ry_zst z).map (ry_iv r ad xa))) := by
  unfold ry_h_push at hz
  cases hz
  exact row (ry_push hR hv hsc (K _ List.mem_cons_self))
theorem ry_h_load_ok {kd i d : Nat} (hR : ry_R D cl A s xa nL H0 z r ad H locs ls) (hz : ry_h_load kd i d z = some zs)
    (row : ∀ e0 : ry_E, ls[i]? = some (.val (ry_iv r ad xa (.inr (kd, e0)))) → W p l e R s m args below meth c H locs z.2.2.2.1 z.2.2.2.2.1 Q (F0 m (ry_zpc z + d) ls (ry_iv r ad xa (.inr (kd, e0)) :: (ry_zst z).map (ry_iv r ad xa))) → W p l e R s m args below meth c H locs z.2.2.2.1 z.2.2.2.2.1 Q (F0 m (ry_zpc z) ls ((ry_zst z).map (ry_iv r ad xa))))
    (K : ∀ z_p ∈ zs, ry_G p l e R s m args below meth c Q D cl A xa nL H0 z.1.length z.2.2.1.length r ad z_p) : W p l e R s m args below meth c H locs z.2.2.2.1 z.2.2.2.2.1 Q (F0 m (ry_zpc z) ls ((ry_zst z).map (ry_iv r ad xa))) := by
  unfold ry_h_load at hz
  split at hz
  · rename_i j e0 he
    split at hz
    · rename_i hj
      subst hj
      cases hz
      exact row e0 (ry_lv_get (ry_lvh hR) he) (ry_push hR rfl (ry_lvsc hR _ (ry_lk_mem he)) (K _ List.mem_cons_self))
    · cases hz
  · cases hz
theorem ry_h_loadA_ok {i d : Nat} (hR : ry_R D cl A s xa nL H0 z r ad H locs ls) (hz : ry_h_loadA i d z = some zs)
    (rowN : ls[i]? = some (.val .null) → W p l e R s m args below meth c H locs z.2.2.2.1 z.2.2.2.2.1 Q (F0 m (ry_zpc z + d) ls (.null :: (ry_zst z).map (ry_iv r ad xa))) → W p l e R s m args below meth c H locs z.2.2.2.1 z.2.2.2.2.1 Q (F0 m (ry_zpc z) ls ((ry_zst z).map (ry_iv r ad xa))))
    (row : ∀ a : Nat, ls[i]? = some (.val (.ref a)) → W p l e R s m args below meth c H locs z.2.2.2.1 z.2.2.2.2.1 Q (F0 m (ry_zpc z + d) ls (.ref a :: (ry_zst z).map (ry_iv r ad xa))) → W p l e R s m args below meth c H locs z.2.2.2.1 z.2.2.2.2.1 Q (F0 m (ry_zpc z) ls ((ry_zst z).map (ry_iv r ad xa))))
    (K : ∀ z_p ∈ zs, ry_G p l e R s m args below meth c Q D cl A xa nL H0 z.1.length z.2.2.1.length r ad z_p) : W p l e R s m args below meth c H locs z.2.2.2.1 z.2.2.2.2.1 Q (F0 m (ry_zpc z) ls ((ry_zst z).map (ry_iv r ad xa))) := by
  unfold ry_h_loadA at hz
  split at hz
  · rename_i o he
    cases hz
    have hg := ry_lv_get (ry_lvh hR) he
    have hp := ry_push (w := ry_iv r ad xa (.inl o)) (d := d) hR rfl (ry_lvsc hR _ (ry_lk_mem he)) (K _ List.mem_cons_self)
    match o, hg, hp with
    | none, hg, hp => exact rowN hg hp
    | some k, hg, hp => exact row _ hg hp
  · rename_i j e0 he
    cases hz
    exact row (xa e0.2.toNat) (ry_lv_get (ry_lvh hR) he) (ry_push (v := .inr (j + 2, e0)) hR rfl (ry_lvsc hR _ (ry_lk_mem he)) (K _ List.mem_cons_self))
  · cases hz
theorem ry_del_mem {lv : List (Nat × ry_V)} {i : Nat} {q : Nat × ry_V} (h : q ∈ ry_del lv i) : q ∈ lv := (List.mem_filter.mp h).1
theorem ry_del2_mem {lv : List (Nat × ry_V)} {i : Nat} {q : Nat × ry_V} (h : q ∈ ry_del2 lv i) : q ∈ lv := (List.mem_filter.mp h).1
theorem ry_h_istore_ok {i d : Nat} (hR : ry_R D cl A s xa nL H0 z r ad H locs ls) (hz : ry_h_istore nL i d z = some zs)
    (row : ∀ (x : Int32) (rest : List Value), i < nL → (∀ ls' : Array Slot, lv_has ls' nL ((i, Value.int x) :: (ry_lvs r ad xa (ry_zlv z)).filter (fun q => !(q.1 == i) && !(q.1 + 1 == i && q.2.category == 2))) → W p l e R s m args below meth c H locs z.2.2.2.1 z.2.2.2.2.1 Q (F0 m (ry_zpc z + d) ls' rest)) → W p l e R s m args below meth c H locs z.2.2.2.1 z.2.2.2.2.1 Q (F0 m (ry_zpc z) ls (.int x :: rest)))
    (K : ∀ z_p ∈ zs, ry_G p l e R s m args below meth c Q D cl A xa nL H0 z.1.length z.2.2.1.length r ad z_p) : W p l e R s m args below meth c H locs z.2.2.2.1 z.2.2.2.2.1 Q (F0 m (ry_zpc z) ls ((ry_zst z).map (ry_iv r ad xa))) := by
  unfold ry_h_istore at hz
  split at hz
  · rename_i e0 t he
    split at hz
    · rename_i hi
      cases hz
      have hst := ry_stsc hR
      rw [ry_pi_ok he] at hst ⊢
      refine row _ _ hi fun ls' hl => ?_
      refine ry_at (K _ List.mem_cons_self) ry_same.rf ry_sameA.rf (ry_R_nxl hR (ry_lv_st (v := .inr (0, e0)) hl) (fun q hq => ?_) (fun v hv => hst v (List.mem_cons_of_mem _ hv))) rfl rfl rfl rfl
      rcases List.mem_cons.mp hq with h | h
      · subst h; exact hst _ List.mem_cons_self
      · exact ry_lvsc hR q (ry_del_mem h)
    · cases hz
  · cases hz
theorem ry_h_lstore_ok {i d : Nat} (hR : ry_R D cl A s xa nL H0 z r ad H locs ls) (hz : ry_h_lstore nL i d z = some zs)
    (row : ∀ (x : Int64) (rest : List Value), i + 1 < nL → (∀ ls' : Array Slot, lv_has ls' nL ((i, Value.long x) :: (ry_lvs r ad xa (ry_zlv z)).filter (fun q => !(q.1 == i) && (!(q.1 == i + 1) && !(q.1 + 1 == i && q.2.category == 2)))) → W p l e R s m args below meth c H locs z.2.2.2.1 z.2.2.2.2.1 Q (F0 m (ry_zpc z + d) ls' rest)) → W p l e R s m args below meth c H locs z.2.2.2.1 z.2.2.2.2.1 Q (F0 m (ry_zpc z) ls (.long x :: rest)))
    (K : ∀ z_p ∈ zs, ry_G p l e R s m args below meth c Q D cl A xa nL H0 z.1.length z.2.2.1.length r ad z_p) : W p l e R s m args below meth c H locs z.2.2.2.1 z.2.2.2.2.1 Q (F0 m (ry_zpc z) ls ((ry_zst z).map (ry_iv r ad xa))) := by
  unfold ry_h_lstore at hz
  split at hz
  · rename_i e0 t he
    split at hz
    · rename_i hi
      cases hz
      have hst := ry_stsc hR
      rw [ry_pl_ok he] at hst ⊢
      refine row _ _ hi fun ls' hl => ?_
      refine ry_at (K _ List.mem_cons_self) ry_same.rf ry_sameA.rf (ry_R_nxl hR (ry_lv_st2 (v := .inr (1, e0)) hl) (fun q hq => ?_) (fun v hv => hst v (List.mem_cons_of_mem _ hv))) rfl rfl rfl rfl
      rcases List.mem_cons.mp hq with h | h
      · subst h; exact hst _ List.mem_cons_self
      · exact ry_lvsc hR q (ry_del2_mem h)
    · cases hz
  · cases hz
theorem ry_h_astore_ok {i d : Nat} (hR : ry_R D cl A s xa nL H0 z r ad H locs ls) (hz : ry_h_astore nL i d z = some zs)
    (row : ∀ (o : Option Nat) (rest : List Value), i < nL → (∀ ls' : Array Slot, lv_has ls' nL ((i, ry_iv r ad xa (.inl o)) :: (ry_lvs r ad xa (ry_zlv z)).filter (fun q => !(q.1 == i) && !(q.1 + 1 == i && q.2.category == 2))) → W p l e R s m args below meth c H locs z.2.2.2.1 z.2.2.2.2.1 Q (F0 m (ry_zpc z + d) ls' rest)) → W p l e R s m args below meth c H locs z.2.2.2.1 z.2.2.2.2.1 Q (F0 m (ry_zpc z) ls (ry_iv r ad xa (.inl o) :: rest)))
    (K : ∀ z_p ∈ zs, ry_G p l e R s m args below meth c Q D cl A xa nL H0 z.1.length z.2.2.1.length r ad z_p) : W p l e R s m args below meth c H locs z.2.2.2.1 z.2.2.2.2.1 Q (F0 m (ry_zpc z) ls ((ry_zst z).map (ry_iv r ad xa))) := by
  unfold ry_h_astore at hz
  split at hz
  · rename_i o t he
    split at hz
    · rename_i hi
      cases hz
      have hst := ry_stsc hR
      rw [ry_pr_ok he] at hst ⊢
      refine row _ _ hi fun ls' hl => ?_
      refine ry_at (K _ List.mem_cons_self) ry_same.rf ry_sameA.rf (ry_R_nxl hR (ry_lv_st (v := .inl o) hl) (fun q hq => ?_) (fun v hv => hst v (List.mem_cons_of_mem _ hv))) rfl rfl rfl rfl
      rcases List.mem_cons.mp hq with h | h
      · subst h; exact hst _ List.mem_cons_self
      · exact ry_lvsc hR q (ry_del_mem h)
    · cases hz
  · cases hz
/-- a number comes on top, with new symbols -/
theorem ry_pushI {kd d : Nat} {I : ry_I} {e0 : ry_E} {t : List ry_V} {r_p : Nat → Int} {w : Value} (hR : ry_R D cl A s xa nL H0 z r ad H locs ls) (ht : ∀ v ∈ t, ry_sc z.1.length z.2.2.1.length v) (hr : ry_same z.1.length r r_p) (hsat : ry_sat I r_p) (hI : z.1.length ≤ I.length) (he : e0.1 < I.length) (hw : ry_iv r_p ad xa (.inr (kd, e0)) = w)
    (K : ry_G p l e R s m args below meth c Q D cl A xa nL H0 z.1.length z.2.2.1.length r ad (ry_nxI I z d (.inr (kd, e0) :: t))) : W p l e R s m args below meth c H locs z.2.2.2.1 z.2.2.2.2.1 Q (F0 m (ry_zpc z + d) ls (w :: t.map (ry_iv r ad xa))) := by
  refine ry_at K hr ry_sameA.rf (ry_R_nxI hR hI hr hsat fun v hv => ?_) rfl rfl rfl ?_
  · rcases List.mem_cons.mp hv with h | h
    · subst h; exact he
    · exact ry_sc.mono (ht v h) hI (Nat.le_refl _)
  · show ry_iv r_p ad xa (.inr (kd, e0)) :: t.map (ry_iv r_p ad xa) = _
    rw [hw, ry_st_ext ht hr ry_sameA.rf]
theorem ry_h_bin_ok {o : Nat} (hR : ry_R D cl A s xa nL H0 z r ad H locs ls) (hz : ry_h_bin o z = some zs)
    (row : ∀ (a b : ry_E) (t : List ry_V), ry_zst z = .inr (0, b) :: .inr (0, a) :: t → W p l e R s m args below meth c H locs z.2.2.2.1 z.2.2.2.2.1 Q (F0 m (ry_zpc z + 1) ls (.int (ry_op o (Int32.ofInt (ry_ev r a)) (Int32.ofInt (ry_ev r b))) :: t.map (ry_iv r ad xa))) → W p l e R s m args below meth c H locs z.2.2.2.1 z.2.2.2.2.1 Q (F0 m (ry_zpc z) ls (.int (Int32.ofInt (ry_ev r b)) :: .int (Int32.ofInt (ry_ev r a)) :: t.map (ry_iv r ad xa))))
    (K : ∀ z_p ∈ zs, ry_G p l e R s m args below meth c Q D cl A xa nL H0 z.1.length z.2.2.1.length r ad z_p) : W p l e R s m args below meth c H locs z.2.2.2.1 z.2.2.2.2.1 Q (F0 m (ry_zpc z) ls ((ry_zst z).map (ry_iv r ad xa))) := by
  unfold ry_h_bin at hz
  split at hz
  · rename_i b t hb
    split at hz
    · rename_i a t2 ha
      split at hz
      · rename_i I2 e2 he
        cases hz
        have e1 := ry_pi_ok hb
        have e3 := ry_pi_ok ha
        subst e3
        have hst := ry_stsc hR
        obtain ⟨r_p, q1, q2, q3, q4, q5⟩ := ry_bin_ok hR.1 he
        have rw1 := row a b t2 e1
        rw [e1] at hst ⊢
        exact rw1 (ry_pushI hR (fun v hv => hst v (List.mem_cons_of_mem _ (List.mem_cons_of_mem _ hv))) q1 q2 q4 q5 (by show Value.int (Int32.ofInt (ry_ev r_p e2)) = _; rw [q3]) (K _ List.mem_cons_self))
      · cases hz
    · cases hz
  · cases hz
theorem ry_nz_ok {I : ry_I} {b : ry_E} (h : ry_sat I r) (hn : ry_nz (ry_bi I b) = true) : ¬ Int32.ofInt (ry_ev r b) = 0 := by
  unfold ry_nz at hn
  split at hn
  · rename_i lo hi he
    obtain ⟨h1, h2, h3, -⟩ := ry_bi_ok h he
    intro q
    rw [q, Int32.toInt_zero] at h3
    rw [Bool.or_eq_true, decide_eq_true_eq, decide_eq_true_eq] at hn
    omega
  · exact absurd hn Bool.false_ne_true
theorem ry_nzL_ok {I : ry_I} {b : ry_E} (h : ry_sat I r) (hn : ry_nz (ry_bl I b) = true) : ¬ Int64.ofInt (ry_ev r b) = 0 := by
  unfold ry_nz at hn
  split at hn
  · rename_i lo hi he
    obtain ⟨h1, h2, h3, -⟩ := ry_bl_ok h he
    intro q
    rw [q, Int64.toInt_zero] at h3
    rw [Bool.or_eq_true, decide_eq_true_eq, decide_eq_true_eq] at hn
    omega
  · exact absurd hn Bool.false_ne_true
theorem ry_h_div_ok {o : Nat} (hR : ry_R D cl A s xa nL H0 z r ad H locs ls) (hz : ry_h_div o z = some zs)
    (row : ∀ (x y : Int32) (rest : List Value), ¬ y = 0 → W p l e R s m args below meth c H locs z.2.2.2.1 z.2.2.2.2.1 Q (F0 m (ry_zpc z + 1) ls (.int (ry_op o x y) :: rest)) → W p l e R s m args below meth c H locs z.2.2.2.1 z.2.2.2.2.1 Q (F0 m (ry_zpc z) ls (.int y :: .int x :: rest)))
    (K : ∀ z_p ∈ zs, ry_G p l e R s m args below meth c Q D cl A xa nL H0 z.1.length z.2.2.1.length r ad z_p) : W p l e R s m args below meth c H locs z.2.2.2.1 z.2.2.2.2.1 Q (F0 m (ry_zpc z) ls ((ry_zst z).map (ry_iv r ad xa))) := by
  unfold ry_h_div at hz
  split at hz
  · rename_i b t hb
    split at hz
    · rename_i hn
      refine ry_h_bin_ok hR hz (fun a b_p t' e k => row _ _ _ ?_ k) K
      have e1 := ry_pi_ok hb
      rw [e] at e1
      cases e1
      exact ry_nz_ok hR.1 hn
    · cases hz
  · cases hz
theorem ry_h_binL_ok {o : Nat} (hR : ry_R D cl A s xa nL H0 z r ad H locs ls) (hz : ry_h_binL o z = some zs)
    (row : ∀ (a b : ry_E) (t : List ry_V), ry_zst z = .inr (1, b) :: .inr (1, a) :: t → W p l e R s m args below meth c H locs z.2.2.2.1 z.2.2.2.2.1 Q (F0 m (ry_zpc z + 1) ls (.long (ry_opL o (Int64.ofInt (ry_ev r a)) (Int64.ofInt (ry_ev r b))) :: t.map (ry_iv r ad xa))) → W p l e R s m args below meth c H locs z.2.2.2.1 z.2.2.2.2.1 Q (F0 m (ry_zpc z) ls (.long (Int64.ofInt (ry_ev r b)) :: .long (Int64.ofInt (ry_ev r a)) :: t.map (ry_iv r ad xa))))
    (K : ∀ z_p ∈ zs, ry_G p l e R s m args below meth c Q D cl A xa nL H0 z.1.length z.2.2.1.length r ad z_p) : W p l e R s m args below meth c H locs z.2.2.2.1 z.2.2.2.2.1 Q (F0 m (ry_zpc z) ls ((ry_zst z).map (ry_iv r ad xa))) := by
  unfold ry_h_binL at hz
  split at hz
  · rename_i b t hb
    split at hz
    · rename_i a t2 ha
      cases hz
      have e1 := ry_pl_ok hb
      have e3 := ry_pl_ok ha
      subst e3
      have hst := ry_stsc hR
      obtain ⟨r_p, q1, q2, q3, q4, q5⟩ := ry_binL_ok (o := o) (a := a) (b := b) hR.1
      have rw1 := row a b t2 e1
      rw [e1] at hst ⊢
      exact rw1 (ry_pushI hR (fun v hv => hst v (List.mem_cons_of_mem _ (List.mem_cons_of_mem _ hv))) q1 q2 q4 q5 (by show Value.long (Int64.ofInt (ry_ev r_p _)) = _; rw [q3]) (K _ List.mem_cons_self))
    · cases hz
  · cases hz
theorem ry_h_divL_ok {o : Nat} (hR : ry_R D cl A s xa nL H0 z r ad H locs ls) (hz : ry_h_divL o z = some zs)
    (row : ∀ (x y : Int64) (rest : List Value), ¬ y = 0 → W p l e R s m args below meth c H locs z.2.2.2.1 z.2.2.2.2.1 Q (F0 m (ry_zpc z + 1) ls (.long (ry_opL o x y) :: rest)) → W p l e R s m args below meth c H locs z.2.2.2.1 z.2.2.2.2.1 Q (F0 m (ry_zpc z) ls (.long y :: .long x :: rest)))
    (K : ∀ z_p ∈ zs, ry_G p l e R s m args below meth c Q D cl A xa nL H0 z.1.length z.2.2.1.length r ad z_p) : W p l e R s m args below meth c H locs z.2.2.2.1 z.2.2.2.2.1 Q (F0 m (ry_zpc z) ls ((ry_zst z).map (ry_iv r ad xa))) := by
  unfold ry_h_divL at hz
  split at hz
  · rename_i b t hb
    split at hz
    · rename_i hn
      refine ry_h_binL_ok hR hz (fun a b_p t' e k => row _ _ _ ?_ k) K
      have e1 := ry_pl_ok hb
      rw [e] at e1
      cases e1
      exact ry_nzL_ok hR.1 hn
    · cases hz
  · cases hz
theorem ry_h_ineg_ok (hR : ry_R D cl A s xa nL H0 z r ad H locs ls) (hz : ry_h_ineg z = some zs)
    (row : ∀ (x : Int32) (rest : List Value), W p l e R s m args below meth c H locs z.2.2.2.1 z.2.2.2.2.1 Q (F0 m (ry_zpc z + 1) ls (.int (-x) :: rest)) → W p l e R s m args below meth c H locs z.2.2.2.1 z.2.2.2.2.1 Q (F0 m (ry_zpc z) ls (.int x :: rest)))
    (K : ∀ z_p ∈ zs, ry_G p l e R s m args below meth c Q D cl A xa nL H0 z.1.length z.2.2.1.length r ad z_p) : W p l e R s m args below meth c H locs z.2.2.2.1 z.2.2.2.2.1 Q (F0 m (ry_zpc z) ls ((ry_zst z).map (ry_iv r ad xa))) := by
  unfold ry_h_ineg at hz
  split at hz
  · rename_i a t ha
    split at hz
    · rename_i I2 e2 he
      cases hz
      have hst := ry_stsc hR
      obtain ⟨r_p, q1, q2, q3, q4, q5⟩ := ry_bin_ok hR.1 he
      rw [ry_pi_ok ha] at hst ⊢
      refine row _ _ (ry_pushI hR (fun v hv => hst v (List.mem_cons_of_mem _ hv)) q1 q2 q4 q5 ?_ (K _ List.mem_cons_self))
      show Value.int (Int32.ofInt (ry_ev r_p e2)) = _
      rw [q3, ry_ev0 hR.1]
      show Value.int (Int32.ofInt 0 - _) = _
      rw [show Int32.ofInt 0 = 0 from rfl, Int32.zero_sub]
    · cases hz
  · cases hz
theorem ry_h_i2l_ok (hR : ry_R D cl A s xa nL H0 z r ad H locs ls) (hz : ry_h_i2l z = some zs)
    (row : ∀ (x : Int32) (rest : List Value), W p l e R s m args below meth c H locs z.2.2.2.1 z.2.2.2.2.1 Q (F0 m (ry_zpc z + 1) ls (.long x.toInt64 :: rest)) → W p l e R s m args below meth c H locs z.2.2.2.1 z.2.2.2.2.1 Q (F0 m (ry_zpc z) ls (.int x :: rest)))
    (K : ∀ z_p ∈ zs, ry_G p l e R s m args below meth c Q D cl A xa nL H0 z.1.length z.2.2.1.length r ad z_p) : W p l e R s m args below meth c H locs z.2.2.2.1 z.2.2.2.2.1 Q (F0 m (ry_zpc z) ls ((ry_zst z).map (ry_iv r ad xa))) := by
  unfold ry_h_i2l at hz
  split at hz
  · rename_i a t ha
    split at hz
    · rename_i b he
      cases hz
      have hst := ry_stsc hR
      obtain ⟨lo, hi⟩ := b
      obtain ⟨h1, h2, h3, h4⟩ := ry_bi_ok hR.1 he
      rw [ry_pi_ok ha] at hst ⊢
      refine row _ _ (ry_at (K _ List.mem_cons_self) ry_same.rf ry_sameA.rf (ry_R_nx hR fun v hv => ?_) rfl rfl rfl ?_)
      · rcases List.mem_cons.mp hv with h | h
        · subst h; exact h4
        · exact hst v (List.mem_cons_of_mem _ h)
      · show Value.long (Int64.ofInt (ry_ev r a)) :: _ = Value.long (Int32.ofInt (ry_ev r a)).toInt64 :: _
        congr 2
        have h5 := ry_b32 (Int32.ofInt (ry_ev r a))
        rw [h3] at h5
        apply Int64.toInt_inj.mp
        rw [ry_i64 (by omega) (by omega), Int32.toInt_toInt64, h3]
    · cases hz
  · cases hz
theorem ry_h_dup_ok (hR : ry_R D cl A s xa nL H0 z r ad H locs ls) (hz : ry_h_dup z = some zs)
    (row : ∀ (v : Value) (rest : List Value), v.category = 1 → W p l e R s m args below meth c H locs z.2.2.2.1 z.2.2.2.2.1 Q (F0 m (ry_zpc z + 1) ls (v :: v :: rest)) → W p l e R s m args below meth c H locs z.2.2.2.1 z.2.2.2.2.1 Q (F0 m (ry_zpc z) ls (v :: rest)))
    (K : ∀ z_p ∈ zs, ry_G p l e R s m args below meth c Q D cl A xa nL H0 z.1.length z.2.2.1.length r ad z_p) : W p l e R s m args below meth c H locs z.2.2.2.1 z.2.2.2.2.1 Q (F0 m (ry_zpc z) ls ((ry_zst z).map (ry_iv r ad xa))) := by
  unfold ry_h_dup at hz
  split at hz
  · rename_i v t hv
    split at hz
    · cases hz
    · rename_i hk
      cases hz
      have hst := ry_stsc hR
      rw [ry_pv_ok hv] at hst ⊢
      refine row _ _ (ry_cat (Bool.eq_false_iff.mpr hk)) (ry_at (K _ List.mem_cons_self) ry_same.rf ry_sameA.rf (ry_R_nx hR fun x hx => ?_) rfl rfl rfl rfl)
      rcases List.mem_cons.mp hx with h | h
      · subst h; exact hst _ List.mem_cons_self
      · exact hst x h
  · cases hz
theorem ry_h_pop_ok (hR : ry_R D cl A s xa nL H0 z r ad H locs ls) (hz : ry_h_pop z = some zs)
    (row : ∀ (v : Value) (rest : List Value), v.category = 1 → W p l e R s m args below meth c H locs z.2.2.2.1 z.2.2.2.2.1 Q (F0 m (ry_zpc z + 1) ls rest) → W p l e R s m args below meth c H locs z.2.2.2.1 z.2.2.2.2.1 Q (F0 m (ry_zpc z) ls (v :: rest)))
    (K : ∀ z_p ∈ zs, ry_G p l e R s m args below meth c Q D cl A xa nL H0 z.1.length z.2.2.1.length r ad z_p) : W p l e R s m args below meth c H locs z.2.2.2.1 z.2.2.2.2.1 Q (F0 m (ry_zpc z) ls ((ry_zst z).map (ry_iv r ad xa))) := by
  unfold ry_h_pop at hz
  split at hz
  · rename_i v t hv
    split at hz
    · cases hz
    · rename_i hk
      cases hz
      have hst := ry_stsc hR
      rw [ry_pv_ok hv] at hst ⊢
      exact row _ _ (ry_cat (Bool.eq_false_iff.mpr hk)) (ry_at (K _ List.mem_cons_self) ry_same.rf ry_sameA.rf (ry_R_nx hR fun x hx => hst x (List.mem_cons_of_mem _ hx)) rfl rfl rfl rfl)
  · cases hz
theorem ry_h_dup2_ok (hR : ry_R D cl A s xa nL H0 z r ad H locs ls) (hz : ry_h_dup2 z = some zs)
    (row2 : ∀ (v : Value) (rest : List Value), v.category = 2 → W p l e R s m args below meth c H locs z.2.2.2.1 z.2.2.2.2.1 Q (F0 m (ry_zpc z + 1) ls (v :: v :: rest)) → W p l e R s m args below meth c H locs z.2.2.2.1 z.2.2.2.2.1 Q (F0 m (ry_zpc z) ls (v :: rest)))
    (row : ∀ (v w : Value) (rest : List Value), v.category = 1 → w.category = 1 → W p l e R s m args below meth c H locs z.2.2.2.1 z.2.2.2.2.1 Q (F0 m (ry_zpc z + 1) ls (v :: w :: v :: w :: rest)) → W p l e R s m args below meth c H locs z.2.2.2.1 z.2.2.2.2.1 Q (F0 m (ry_zpc z) ls (v :: w :: rest)))
    (K : ∀ z_p ∈ zs, ry_G p l e R s m args below meth c Q D cl A xa nL H0 z.1.length z.2.2.1.length r ad z_p) : W p l e R s m args below meth c H locs z.2.2.2.1 z.2.2.2.2.1 Q (F0 m (ry_zpc z) ls ((ry_zst z).map (ry_iv r ad xa))) := by
  unfold ry_h_dup2 at hz
  split at hz
  · rename_i v t hv
    have hst := ry_stsc hR
    rw [ry_pv_ok hv] at hst ⊢
    split at hz
    · rename_i hk
      cases hz
      refine row2 _ _ (ry_cat2 hk) (ry_at (K _ List.mem_cons_self) ry_same.rf ry_sameA.rf (ry_R_nx hR fun x hx => ?_) rfl rfl rfl rfl)
      rcases List.mem_cons.mp hx with h | h
      · subst h; exact hst _ List.mem_cons_self
      · exact hst x h
    · rename_i hk
      split at hz
      · rename_i w t2 hw
        have e2 := ry_pv_ok hw
        subst e2
        split at hz
        · cases hz
        · rename_i hk2
          cases hz
          refine row _ _ _ (ry_cat (Bool.eq_false_iff.mpr hk)) (ry_cat (Bool.eq_false_iff.mpr hk2)) (ry_at (K _ List.mem_cons_self) ry_same.rf ry_sameA.rf (ry_R_nx hR fun x hx => ?_) rfl rfl rfl rfl)
          rcases List.mem_cons.mp hx with h | h
          · subst h; exact hst _ List.mem_cons_self
          · rcases List.mem_cons.mp h with h | h
            · subst h; exact hst _ (List.mem_cons_of_mem _ List.mem_cons_self)
            · exact hst x h
      · cases hz
  · cases hz
theorem ry_h_iinc_ok {i : Nat} {n : Int} (hR : ry_R D cl A s xa nL H0 z r ad H locs ls) (hz : ry_h_iinc nL i n z = some zs)
    (row : ∀ (x v : Int32) (k : Nat), i < nL → (ry_lvs r ad xa (ry_zlv z))[k]? = some (i, Value.int x) → x + Int32.ofInt n = v → (∀ ls' : Array Slot, lv_has ls' nL ((i, Value.int v) :: (ry_lvs r ad xa (ry_zlv z)).filter (fun q => !(q.1 == i) && !(q.1 + 1 == i && q.2.category == 2))) → W p l e R s m args below meth c H locs z.2.2.2.1 z.2.2.2.2.1 Q (F0 m (ry_zpc z + 3) ls' ((ry_zst z).map (ry_iv r ad xa)))) → W p l e R s m args below meth c H locs z.2.2.2.1 z.2.2.2.2.1 Q (F0 m (ry_zpc z) ls ((ry_zst z).map (ry_iv r ad xa))))
    (K : ∀ z_p ∈ zs, ry_G p l e R s m args below meth c Q D cl A xa nL H0 z.1.length z.2.2.1.length r ad z_p) : W p l e R s m args below meth c H locs z.2.2.2.1 z.2.2.2.2.1 Q (F0 m (ry_zpc z) ls ((ry_zst z).map (ry_iv r ad xa))) := by
  unfold ry_h_iinc at hz
  split at hz
  · rename_i e0 he
    split at hz
    · rename_i I2 e2 hb
      split at hz
      · rename_i hi
        cases hz
        obtain ⟨r_p, q1, q2, q3, q4, q5⟩ := ry_bin_ok hR.1 hb
        have hmem : (i, ry_iv r ad xa (.inr (0, e0))) ∈ ry_lvs r ad xa (ry_zlv z) := List.mem_map.mpr ⟨(i, .inr (0, e0)), ry_lk_mem he, rfl⟩
        obtain ⟨k, hk⟩ := List.getElem?_of_mem hmem
        have hv : Int32.ofInt (ry_ev r e0) + Int32.ofInt n = Int32.ofInt (ry_ev r_p e2) := by
          rw [q3, ry_ev0 hR.1]
          rfl
        refine row _ _ k hi hk hv fun ls' hl => ?_
        have hl2 : lv_has ls' nL (ry_lvs r_p ad xa ((i, .inr (0, e2)) :: ry_del (ry_zlv z) i)) := by
          refine ry_lv_st ?_
          rw [ry_lvs_ext (ry_lvsc hR) q1 ry_sameA.rf]
          exact hl
        refine ry_at (K _ List.mem_cons_self) q1 ry_sameA.rf ⟨q2, ry_facts_ext hR.2.1 hR.2.2.1 q1, hR.2.2.1.mono q4, hR.2.2.2.1.ext q4 q1 ry_sameA.rf, hl2, fun q hq => ?_, fun v hv => ry_sc.mono (ry_stsc hR v hv) q4 (Nat.le_refl _)⟩ rfl rfl rfl ?_
        · rcases List.mem_cons.mp hq with h | h
          · subst h; exact q5
          · exact ry_sc.mono (ry_lvsc hR q (ry_del_mem h)) q4 (Nat.le_refl _)
        · show (ry_zst z).map (ry_iv r_p ad xa) = (ry_zst z).map (ry_iv r ad xa)
          exact ry_st_ext (ry_stsc hR) q1 ry_sameA.rf
      · cases hz
    · cases hz
  · cases hz
end RYQ
