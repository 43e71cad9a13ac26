section
noncomputable def rx_pi (st : List rx_V) : Option (rx_E × List rx_V) := match st with
  | .inr (0, e) :: t => some (e, t)
  | _ => none
noncomputable def rx_pl (st : List rx_V) : Option (rx_E × List rx_V) := match st with
  | .inr (1, e) :: t => some (e, t)
  | _ => none
noncomputable def rx_pv (st : List rx_V) : Option (rx_V × List rx_V) := match st with
  | v :: t => some (v, t)
  | [] => none
theorem rx_pi_ok {st t : List rx_V} {e : rx_E} (h : rx_pi st = some (e, t)) : st = .inr (0, e) :: t := by
  match st, h with
  | [], h => exact absurd (show (none : Option (rx_E × List rx_V)) = some (e, t) from h) (fun q => by cases q)
  | .inl _ :: _, h => exact absurd (show (none : Option (rx_E × List rx_V)) = some (e, t) from h) (fun q => by cases q)
  | .inr (0, e0) :: t0, h =>
    have h2 : some (e0, t0) = some (e, t) := h
    cases h2
    rfl
  | .inr (_ + 1, _) :: _, h => exact absurd (show (none : Option (rx_E × List rx_V)) = some (e, t) from h) (fun q => by cases q)
theorem rx_pl_ok {st t : List rx_V} {e : rx_E} (h : rx_pl st = some (e, t)) : st = .inr (1, e) :: t := by
  match st, h with
  | [], h => exact absurd (show (none : Option (rx_E × List rx_V)) = some (e, t) from h) (fun q => by cases q)
  | .inl _ :: _, h => exact absurd (show (none : Option (rx_E × List rx_V)) = some (e, t) from h) (fun q => by cases q)
  | .inr (0, _) :: _, h => exact absurd (show (none : Option (rx_E × List rx_V)) = some (e, t) from h) (fun q => by cases q)
  | .inr (1, e0) :: t0, h =>
    have h2 : some (e0, t0) = some (e, t) := h
    cases h2
    rfl
  | .inr (_ + 2, _) :: _, h => exact absurd (show (none : Option (rx_E × List rx_V)) = some (e, t) from h) (fun q => by cases q)
theorem rx_pv_ok {st t : List rx_V} {v : rx_V} (h : rx_pv st = some (v, t)) : st = v :: t := by
  match st, h with
  | [], h => exact absurd (show (none : Option (rx_V × List rx_V)) = some (v, t) from h) (fun q => by cases q)
  | v0 :: t0, h =>
    have h2 : some (v0, t0) = some (v, t) := h
    cases h2
    rfl
noncomputable def rx_zst (z : rx_Z) : List rx_V := z.2.2.2.2.2.2.2
noncomputable def rx_zlv (z : rx_Z) : List (Nat × rx_V) := z.2.2.2.2.2.2.1
noncomputable def rx_zpc (z : rx_Z) : Nat := z.2.2.2.2.2.1
noncomputable def rx_nx (z : rx_Z) (d : Nat) (st : List rx_V) : rx_Z := match z with
  | (I0, F1, ht0, c0, s0, pc0, lv0, _) => (I0, F1, ht0, c0, s0, pc0 + d, lv0, st)
noncomputable def rx_nxI (I : rx_I) (z : rx_Z) (d : Nat) (st : List rx_V) : rx_Z := match z with
  | (_, F1, ht0, c0, s0, pc0, lv0, _) => (I, F1, ht0, c0, s0, pc0 + d, lv0, st)
noncomputable def rx_nxl (lv : List (Nat × rx_V)) (z : rx_Z) (d : Nat) (st : List rx_V) : rx_Z := match z with
  | (I0, F1, ht0, c0, s0, pc0, _, _) => (I0, F1, ht0, c0, s0, pc0 + d, lv, st)
section RXP
variable {p : Program} {l : Launch} {e : Env} {R : Room} {s : State} {m : MethodId} {args : Array Value} {below : List Frame} {meth : Method} {c : Code} {Q : State → Prop}
variable {D : bx_D} {cl : List vw_C} {A : Nat → Prop} {xa : Nat → Nat} {nL : Nat} {H0 H : Heap} {locs : List Loc} {ls : Array Slot} {r : Nat → Int} {ad : Nat → Nat}
variable {cc : ByteArray} {z : rx_Z} {zs : List rx_Z}
theorem rx_at {N M : Nat} {z_p : rx_Z} {r_p : Nat → Int} {ad_p : Nat → Nat} {H_p : Heap} {locs_p : List Loc} {ls_p : Array Slot} {pc k n : Nat} {vs : List Value} (K : rx_G p l e R s m args below meth c Q D cl A xa nL H0 N M r ad z_p) (hr : rx_same N r r_p) (ha : rx_sameA M ad ad_p) (hR : rx_R D cl A s xa nL H0 z_p r_p ad_p H_p locs_p ls_p)
    (hpc : rx_zpc z_p = pc) (hk : z_p.2.2.2.1 = k) (hn : z_p.2.2.2.2.1 = n) (hvs : (rx_zst z_p).map (rx_iv r_p ad_p xa) = vs)
    (hN : N ≤ z_p.1.length := by first | exact Nat.le_refl _ | assumption | (apply Nat.le_of_eq; symm; assumption) | (unfold rx_nxa; simp)) (hM : True := trivial) : W p l e R s m args below meth c H_p locs_p k n Q (F0 m pc ls_p vs) := by
  subst hpc; subst hk; subst hn; subst hvs
  exact K r_p ad_p H_p locs_p ls_p hN hM hr ha hR
theorem rx_stsc (hR : rx_R D cl A s xa nL H0 z r ad H locs ls) : ∀ v ∈ rx_zst z, rx_sc z.1.length z.2.2.1.length v := hR.2.2.2.2.2.2
theorem rx_lvsc (hR : rx_R D cl A s xa nL H0 z r ad H locs ls) : ∀ q ∈ rx_zlv z, rx_sc z.1.length z.2.2.1.length q.2 := hR.2.2.2.2.2.1
theorem rx_lvh (hR : rx_R D cl A s xa nL H0 z r ad H locs ls) : lv_has ls nL (rx_lvs r ad xa (rx_zlv z)) := hR.2.2.2.2.1
theorem rx_R_nx {d : Nat} {st : List rx_V} (hR : rx_R D cl A s xa nL H0 z r ad H locs ls) (hs : ∀ v ∈ st, rx_sc z.1.length z.2.2.1.length v) : rx_R D cl A s xa nL H0 (rx_nx z d st) r ad H locs ls :=
  ⟨hR.1, hR.2.1, hR.2.2.1, hR.2.2.2.1, hR.2.2.2.2.1, hR.2.2.2.2.2.1, hs⟩
theorem rx_R_nxl {d : Nat} {st : List rx_V} {lv : List (Nat × rx_V)} {ls_p : Array Slot} (hR : rx_R D cl A s xa nL H0 z r ad H locs ls) (hl : lv_has ls_p nL (rx_lvs r ad xa lv)) (hq : ∀ q ∈ lv, rx_sc z.1.length z.2.2.1.length q.2) (hs : ∀ v ∈ st, rx_sc z.1.length z.2.2.1.length v) : rx_R D cl A s xa nL H0 (rx_nxl lv z d st) r ad H locs ls_p :=
  ⟨hR.1, hR.2.1, hR.2.2.1, hR.2.2.2.1, hl, hq, hs⟩
theorem rx_fsc.mono {N N_p : Nat} {F : rx_F} (h : rx_fsc N F) (hN : N ≤ N_p) : rx_fsc N_p F := fun f hf => ⟨Nat.lt_of_lt_of_le (h f hf).1 hN, Nat.lt_of_lt_of_le (h f hf).2.1 hN, fun q => Nat.lt_of_lt_of_le ((h f hf).2.2 q) hN⟩
theorem rx_R_nxI {d : Nat} {st : List rx_V} {I : rx_I} {r_p : Nat → Int} (hR : rx_R D cl A s xa nL H0 z r ad H locs ls) (hI : z.1.length ≤ I.length) (hr : rx_same z.1.length r r_p) (hsat : rx_sat I r_p) (hs : ∀ v ∈ st, rx_sc I.length z.2.2.1.length v) : rx_R D cl A s xa nL H0 (rx_nxI I z d st) r_p ad H locs ls :=
  ⟨hsat, rx_facts_ext hR.2.1 hR.2.2.1 hr, hR.2.2.1.mono hI, hR.2.2.2.1.ext (M := 0) hI hr rx_sameA.rf, by
    have h := rx_lvh hR
    show lv_has ls nL (rx_lvs r_p ad xa (rx_zlv z))
    rw [rx_lvs_ext (rx_lvsc hR) hr rx_sameA.rf]
    exact h, fun q hq => rx_sc.mono (rx_lvsc hR q hq) hI trivial, hs⟩
theorem rx_n_iv {I : rx_I} (hs : rx_sat I r) (n : Int) : rx_iv r ad xa (rx_n n) = .int (Int32.ofInt n) := by
  show Value.int (Int32.ofInt (rx_ev r (0, n))) = _
  rw [rx_ev0 hs]
theorem rx_nL_iv {I : rx_I} (hs : rx_sat I r) (n : Int) : rx_iv r ad xa (.inr (1, (0, n))) = .long (Int64.ofInt n) := by
  show Value.long (Int64.ofInt (rx_ev r (0, n))) = _
  rw [rx_ev0 hs]
theorem rx_sc0 (hR : rx_R D cl A s xa nL H0 z r ad H locs ls) (k : Nat) (n : Int) : rx_sc z.1.length z.2.2.1.length (.inr (k, (0, n))) := rx_pos hR.1
theorem rx_push {v : rx_V} {w : Value} {d : Nat} (hR : rx_R D cl A s xa nL H0 z r ad H locs ls) (hv : rx_iv r ad xa v = w) (hsc : rx_sc z.1.length z.2.2.1.length v)
    (K : rx_G p l e R s m args below meth c Q D cl A xa nL H0 z.1.length z.2.2.1.length r ad (rx_nx z d (v :: rx_zst z))) : W p l e R s m args below meth c H locs z.2.2.2.1 z.2.2.2.2.1 Q (F0 m (rx_zpc z + d) ls (w :: (rx_zst z).map (rx_iv r ad xa))) := by
  refine rx_at K rx_same.rf rx_sameA.rf (rx_R_nx hR fun x hx => ?_) rfl rfl rfl (by rw [← hv]; rfl)
  rcases List.mem_cons.mp hx with h | h
  · subst h; exact hsc
  · exact rx_stsc hR x h
end RXP
noncomputable def rx_h_push (v : rx_V) (d : Nat) (z : rx_Z) : Option (List rx_Z) := some [rx_nx z d (v :: rx_zst z)]
noncomputable def rx_h_load (kd i d : Nat) (z : rx_Z) : Option (List rx_Z) := match rx_lk (rx_zlv z) i with
  | some (.inr (j, e)) => if j = kd then some [rx_nx z d (.inr (j, e) :: rx_zst z)] else none
  | _ => none
noncomputable def rx_h_loadA (i d : Nat) (z : rx_Z) : Option (List rx_Z) := match rx_lk (rx_zlv z) i with
  | some (.inl o) => some [rx_nx z d (.inl o :: rx_zst z)]
  | some (.inr (j + 2, e)) => some [rx_nx z d (.inr (j + 2, e) :: rx_zst z)]
  | _ => none
noncomputable def rx_h_istore (nL i d : Nat) (z : rx_Z) : Option (List rx_Z) := match rx_pi (rx_zst z) with
  | some (e, t) => if i < nL then some [rx_nxl ((i, .inr (0, e)) :: rx_del (rx_zlv z) i) z d t] else none
  | none => none
noncomputable def rx_h_lstore (nL i d : Nat) (z : rx_Z) : Option (List rx_Z) := match rx_pl (rx_zst z) with
  | some (e, t) => if i + 1 < nL then some [rx_nxl ((i, .inr (1, e)) :: rx_del2 (rx_zlv z) i) z d t] else none
  | none => none
noncomputable def rx_isRv (v : rx_V) : Bool := match v with
  | .inl _ => true
  | .inr (0, _) => false
  | .inr (1, _) => false
  | .inr (_ + 2, _) => true
theorem rx_isRv_ok {r : Nat → Int} {ad xa : Nat → Nat} {v : rx_V} (h : rx_isRv v = true) : ∃ o : Option Nat, rx_iv r ad xa v = va_rf o := by
  match v, h with
  | .inl none, _ => exact ⟨none, rfl⟩
  | .inl (some k), _ => exact ⟨some (ad k), rfl⟩
  | .inr (0, _), h => exact absurd (show false = true from h) Bool.false_ne_true
  | .inr (1, _), h => exact absurd (show false = true from h) Bool.false_ne_true
  | .inr (2, e), _ => exact ⟨some (xa e.2.toNat), rfl⟩
  | .inr (_ + 3, e), _ => exact ⟨some (ad (rx_ev r e).toNat), rfl⟩
noncomputable def rx_h_astore (nL i d : Nat) (z : rx_Z) : Option (List rx_Z) := match rx_pv (rx_zst z) with
  | some (v, t) => if rx_isRv v = true ∧ i < nL then some [rx_nxl ((i, v) :: rx_del (rx_zlv z) i) z d t] else none
  | none => none
noncomputable def rx_h_iinc (nL i : Nat) (n : Int) (z : rx_Z) : Option (List rx_Z) := match rx_lk (rx_zlv z) i with
  | some (.inr (0, e)) => match rx_bin 0 z.1 e (0, n) with
    | some (I, e2) => if i < nL then some [(I, z.2.1, z.2.2.1, z.2.2.2.1, z.2.2.2.2.1, rx_zpc z + 3, (i, .inr (0, e2)) :: rx_del (rx_zlv z) i, rx_zst z)] else none
    | none => none
  | _ => none
noncomputable def rx_fm (o n : Nat) (e a b : rx_E) (ba bb be : Option (Int × Int)) : rx_F := match ba, bb, be with
  | some (al, ah), some (bl, bh), some _ => if e = (n, 0) then (match o with
    | 0 => if -2147483648 ≤ al + bl ∧ ah + bh ≤ 2147483647 ∧ 1 ≤ bx_en b ∧ bx_de (bx_en b) = b then [(1000000 * bx_en b, e, a)] else []
    | 1 => if -2147483648 ≤ al - bh ∧ ah - bl ≤ 2147483647 ∧ 1 ≤ bx_en b ∧ bx_de (bx_en b) = b then [(1000000 * bx_en b, a, e)] else []
    | 2 => if 0 ≤ al ∧ 0 ≤ bl ∧ ah * bh ≤ 2147483647 then (if b.1 = 0 ∧ b.2 < 999996 then [(b.2.toNat + 4, e, a)] else if a.1 = 0 ∧ a.2 < 999996 then [(a.2.toNat + 4, e, b)] else []) else []
    | _ => []) else []
  | _, _, _ => []
noncomputable def rx_nxIF (I : rx_I) (F : rx_F) (z : rx_Z) (d : Nat) (st : List rx_V) : rx_Z := match z with
  | (_, _, ht0, c0, s0, pc0, lv0, _) => (I, F, ht0, c0, s0, pc0 + d, lv0, st)
noncomputable def rx_h_bin (o : Nat) (z : rx_Z) : Option (List rx_Z) := match rx_pi (rx_zst z) with
  | some (b, t) => match rx_pi t with
    | some (a, t) => match rx_bin o z.1 a b with
      | some (I, e) => some [rx_nxIF I (rx_fm o z.1.length e (rx_nm z.1 a) (rx_nm z.1 b) (rx_bi z.1 (rx_nm z.1 a)) (rx_bi z.1 (rx_nm z.1 b)) (rx_bi I e) ++ z.2.1) z 1 (.inr (0, e) :: t)]
      | none => none
    | none => none
  | none => none
noncomputable def rx_sb (I0 : rx_I) (F : rx_F) (a b : rx_E) (I : rx_I) (e : rx_E) : rx_I := match rx_bi I0 a, rx_bi I0 b, rx_bi I e with
  | some (al, ah), some (bl, bh), some (lo, _) => if lo < 0 ∧ e = (I0.length, 0) ∧ ah - bl ≤ 2147483647 ∧ (rx_asm I0 F 0 a b al ah bl bh).isNone = true then rx_cap I e.1 0 2147483647 else I
  | _, _, _ => I
noncomputable def rx_h_sub (z : rx_Z) : Option (List rx_Z) := match rx_pi (rx_zst z) with
  | some (b, t) => match rx_pi t with
    | some (a, t) => match rx_bin 1 z.1 a b with
      | some (I, e) => some [rx_nxIF (rx_sb z.1 z.2.1 (rx_nm z.1 a) (rx_nm z.1 b) I e) (rx_fm 1 z.1.length e (rx_nm z.1 a) (rx_nm z.1 b) (rx_bi z.1 (rx_nm z.1 a)) (rx_bi z.1 (rx_nm z.1 b)) (rx_bi I e) ++ z.2.1) z 1 (.inr (0, e) :: t)]
      | none => none
    | none => none
  | none => none
noncomputable def rx_nz (b : Option (Int × Int)) : Bool := match b with
  | some (lo, hi) => decide (0 < lo) || decide (hi < 0)
  | none => false
noncomputable def rx_nzF (F : rx_F) (b : rx_E) (o : Option (Int × Int)) : Bool := o.isSome && (F.any (rx_no 2 b (0, 0)) || F.any (rx_no 2 (0, 0) b))
noncomputable def rx_h_div (o : Nat) (z : rx_Z) : Option (List rx_Z) := match rx_pi (rx_zst z) with
  | some (b, t) => if rx_nz (rx_bi z.1 b) || rx_nzF z.2.1 b (rx_bi z.1 b) then rx_h_bin o z else none
  | none => none
noncomputable def rx_fa (e a : rx_E) (o : Option (Int × Int)) : rx_F := match o with
  | some (lo, _) => if 0 ≤ lo ∧ ¬ e.1 = 0 then [(1, e, a)] else []
  | none => []
noncomputable def rx_h_and (z : rx_Z) : Option (List rx_Z) := match rx_pi (rx_zst z) with
  | some (b, t) => match rx_pi t with
    | some (a, t) => match rx_bin 5 z.1 a b with
      | some (I, e) => match rx_bi I e with
        | some _ => some [rx_nxIF I (rx_fa e a (rx_bi z.1 a) ++ (rx_fa e b (rx_bi z.1 b) ++ z.2.1)) z 1 (.inr (0, e) :: t)]
        | none => some [rx_nxI I z 1 (.inr (0, e) :: t)]
      | none => none
    | none => none
  | none => none
noncomputable def rx_h_binL (o : Nat) (z : rx_Z) : Option (List rx_Z) := match rx_pl (rx_zst z) with
  | some (b, t) => match rx_pl t with
    | some (a, t) => some [rx_nxI (rx_binL o z.1 a b).1 z 1 (.inr (1, (rx_binL o z.1 a b).2) :: t)]
    | none => none
  | none => none
noncomputable def rx_h_divL (o : Nat) (z : rx_Z) : Option (List rx_Z) := match rx_pl (rx_zst z) with
  | some (b, t) => if rx_nz (rx_bl z.1 b) || rx_nzF z.2.1 b (rx_bl z.1 b) then rx_h_binL o z else none
  | none => none
noncomputable def rx_h_ineg (z : rx_Z) : Option (List rx_Z) := match rx_pi (rx_zst z) with
  | some (a, t) => match rx_bin 1 z.1 (0, 0) a with
    | some (I, e) => some [rx_nxI I z 1 (.inr (0, e) :: t)]
    | none => none
  | none => none
noncomputable def rx_h_i2l (z : rx_Z) : Option (List rx_Z) := match rx_pi (rx_zst z) with
  | some (a, t) => match rx_bi z.1 a with
    | some _ => some [rx_nx z 1 (.inr (1, a) :: t)]
    | none => none
  | none => none
noncomputable def rx_h_dup (z : rx_Z) : Option (List rx_Z) := match rx_pv (rx_zst z) with
  | some (v, t) => if rx_k2 v then none else some [rx_nx z 1 (v :: v :: t)]
  | none => none
noncomputable def rx_h_pop (z : rx_Z) : Option (List rx_Z) := match rx_pv (rx_zst z) with
  | some (v, t) => if rx_k2 v then none else some [rx_nx z 1 t]
  | none => none
noncomputable def rx_h_dup2 (z : rx_Z) : Option (List rx_Z) := match rx_pv (rx_zst z) with
  | some (v, t) => if rx_k2 v then some [rx_nx z 1 (v :: v :: t)] else match rx_pv t with
    | some (w, t) => if rx_k2 w then none else some [rx_nx z 1 (v :: w :: v :: w :: t)]
    | none => none
  | none => none
section RXQ
variable {p : Program} {l : Launch} {e : Env} {R : Room} {s : State} {m : MethodId} {args : Array Value} {below : List Frame} {meth : Method} {c : Code} {Q : State → Prop}
variable {D : bx_D} {cl : List vw_C} {A : Nat → Prop} {xa : Nat → Nat} {nL : Nat} {H0 H : Heap} {locs : List Loc} {ls : Array Slot} {r : Nat → Int} {ad : Nat → Nat}
variable {cc : ByteArray} {z : rx_Z} {zs : List rx_Z}
theorem rx_h_push_ok {v : rx_V} {w : Value} {d : Nat} (hR : rx_R D cl A s xa nL H0 z r ad H locs ls) (hz : rx_h_push v d z = some zs) (hv : rx_iv r ad xa v = w) (hsc : rx_sc z.1.length z.2.2.1.length v)
    (row : W p l e R s m args below meth c H locs z.2.2.2.1 z.2.2.2.2.1 Q (F0 m (rx_zpc z + d) ls (w :: (rx_zst z).map (rx_iv r ad xa))) → W p l e R s m args below meth c H locs z.2.2.2.1 z.2.2.2.2.1 Q (F0 m (rx_zpc z) ls ((rx_zst z).map (rx_iv r ad xa))))
    (K : ∀ z_p ∈ zs, rx_G p l e R s m args below meth c Q D cl A xa nL H0 z.1.length z.2.2.1.length r ad z_p) : W p l e R s m args below meth c H locs z.2.2.2.1 z.2.2.2.2.1 Q (F0 m (rx_zpc z) ls ((rx_zst z).map (rx_iv r ad xa))) := by
  unfold rx_h_push at hz
  cases hz
  exact row (rx_push hR hv hsc (K _ List.mem_cons_self))
theorem rx_h_load_ok {kd i d : Nat} (hR : rx_R D cl A s xa nL H0 z r ad H locs ls) (hz : rx_h_load kd i d z = some zs)
    (row : ∀ e0 : rx_E, ls[i]? = some (.val (rx_iv r ad xa (.inr (kd, e0)))) → W p l e R s m args below meth c H locs z.2.2.2.1 z.2.2.2.2.1 Q (F0 m (rx_zpc z + d) ls (rx_iv r ad xa (.inr (kd, e0)) :: (rx_zst z).map (rx_iv r ad xa))) → W p l e R s m args below meth c H locs z.2.2.2.1 z.2.2.2.2.1 Q (F0 m (rx_zpc z) ls ((rx_zst z).map (rx_iv r ad xa))))
    (K : ∀ z_p ∈ zs, rx_G p l e R s m args below meth c Q D cl A xa nL H0 z.1.length z.2.2.1.length r ad z_p) : W p l e R s m args below meth c H locs z.2.2.2.1 z.2.2.2.2.1 Q (F0 m (rx_zpc z) ls ((rx_zst z).map (rx_iv r ad xa))) := by
  unfold rx_h_load at hz
  split at hz
  · rename_i j e0 he
    split at hz
    · rename_i hj
      subst hj
      cases hz
      exact row e0 (rx_lv_get (rx_lvh hR) he) (rx_push hR rfl (rx_lvsc hR _ (rx_lk_mem he)) (K _ List.mem_cons_self))
    · cases hz
  · cases hz
theorem rx_h_loadA_ok {i d : Nat} (hR : rx_R D cl A s xa nL H0 z r ad H locs ls) (hz : rx_h_loadA i d z = some zs)
    (rowN : ls[i]? = some (.val .null) → W p l e R s m args below meth c H locs z.2.2.2.1 z.2.2.2.2.1 Q (F0 m (rx_zpc z + d) ls (.null :: (rx_zst z).map (rx_iv r ad xa))) → W p l e R s m args below meth c H locs z.2.2.2.1 z.2.2.2.2.1 Q (F0 m (rx_zpc z) ls ((rx_zst z).map (rx_iv r ad xa))))
    (row : ∀ a : Nat, ls[i]? = some (.val (.ref a)) → W p l e R s m args below meth c H locs z.2.2.2.1 z.2.2.2.2.1 Q (F0 m (rx_zpc z + d) ls (.ref a :: (rx_zst z).map (rx_iv r ad xa))) → W p l e R s m args below meth c H locs z.2.2.2.1 z.2.2.2.2.1 Q (F0 m (rx_zpc z) ls ((rx_zst z).map (rx_iv r ad xa))))
    (K : ∀ z_p ∈ zs, rx_G p l e R s m args below meth c Q D cl A xa nL H0 z.1.length z.2.2.1.length r ad z_p) : W p l e R s m args below meth c H locs z.2.2.2.1 z.2.2.2.2.1 Q (F0 m (rx_zpc z) ls ((rx_zst z).map (rx_iv r ad xa))) := by
  unfold rx_h_loadA at hz
  split at hz
  · rename_i o he
    cases hz
    have hg := rx_lv_get (rx_lvh hR) he
    have hp := rx_push (w := rx_iv r ad xa (.inl o)) (d := d) hR rfl (rx_lvsc hR _ (rx_lk_mem he)) (K _ List.mem_cons_self)
    match o, hg, hp with
    | none, hg, hp => exact rowN hg hp
    | some k, hg, hp => exact row _ hg hp
  · rename_i j e0 he
    cases hz
    match j, he, K with
    | 0, he, K => exact row (xa e0.2.toNat) (rx_lv_get (rx_lvh hR) he) (rx_push (v := .inr (2, e0)) hR rfl (rx_lvsc hR _ (rx_lk_mem he)) (K _ List.mem_cons_self))
    | j + 1, he, K => exact row (ad (rx_ev r e0).toNat) (rx_lv_get (rx_lvh hR) he) (rx_push (v := .inr (j + 3, e0)) hR rfl (rx_lvsc hR _ (rx_lk_mem he)) (K _ List.mem_cons_self))
  · cases hz
theorem rx_del_mem {lv : List (Nat × rx_V)} {i : Nat} {q : Nat × rx_V} (h : q ∈ rx_del lv i) : q ∈ lv := (List.mem_filter.mp h).1
theorem rx_del2_mem {lv : List (Nat × rx_V)} {i : Nat} {q : Nat × rx_V} (h : q ∈ rx_del2 lv i) : q ∈ lv := (List.mem_filter.mp h).1
theorem rx_h_istore_ok {i d : Nat} (hR : rx_R D cl A s xa nL H0 z r ad H locs ls) (hz : rx_h_istore nL i d z = some zs)
    (row : ∀ (x : Int32) (rest : List Value), i < nL → (∀ ls_p : Array Slot, lv_has ls_p nL ((i, Value.int x) :: (rx_lvs r ad xa (rx_zlv z)).filter (fun q => !(q.1 == i) && !(q.1 + 1 == i && q.2.category == 2))) → W p l e R s m args below meth c H locs z.2.2.2.1 z.2.2.2.2.1 Q (F0 m (rx_zpc z + d) ls_p rest)) → W p l e R s m args below meth c H locs z.2.2.2.1 z.2.2.2.2.1 Q (F0 m (rx_zpc z) ls (.int x :: rest)))
    (K : ∀ z_p ∈ zs, rx_G p l e R s m args below meth c Q D cl A xa nL H0 z.1.length z.2.2.1.length r ad z_p) : W p l e R s m args below meth c H locs z.2.2.2.1 z.2.2.2.2.1 Q (F0 m (rx_zpc z) ls ((rx_zst z).map (rx_iv r ad xa))) := by
  unfold rx_h_istore at hz
  split at hz
  · rename_i e0 t he
    split at hz
    · rename_i hi
      cases hz
      have hst := rx_stsc hR
      rw [rx_pi_ok he] at hst ⊢
      refine row _ _ hi fun ls_p hl => ?_
      refine rx_at (K _ List.mem_cons_self) rx_same.rf rx_sameA.rf (rx_R_nxl hR (rx_lv_st (v := .inr (0, e0)) hl) (fun q hq => ?_) (fun v hv => hst v (List.mem_cons_of_mem _ hv))) rfl rfl rfl rfl
      rcases List.mem_cons.mp hq with h | h
      · subst h; exact hst _ List.mem_cons_self
      · exact rx_lvsc hR q (rx_del_mem h)
    · cases hz
  · cases hz
theorem rx_h_lstore_ok {i d : Nat} (hR : rx_R D cl A s xa nL H0 z r ad H locs ls) (hz : rx_h_lstore nL i d z = some zs)
    (row : ∀ (x : Int64) (rest : List Value), i + 1 < nL → (∀ ls_p : Array Slot, lv_has ls_p nL ((i, Value.long x) :: (rx_lvs r ad xa (rx_zlv z)).filter (fun q => !(q.1 == i) && (!(q.1 == i + 1) && !(q.1 + 1 == i && q.2.category == 2)))) → W p l e R s m args below meth c H locs z.2.2.2.1 z.2.2.2.2.1 Q (F0 m (rx_zpc z + d) ls_p rest)) → W p l e R s m args below meth c H locs z.2.2.2.1 z.2.2.2.2.1 Q (F0 m (rx_zpc z) ls (.long x :: rest)))
    (K : ∀ z_p ∈ zs, rx_G p l e R s m args below meth c Q D cl A xa nL H0 z.1.length z.2.2.1.length r ad z_p) : W p l e R s m args below meth c H locs z.2.2.2.1 z.2.2.2.2.1 Q (F0 m (rx_zpc z) ls ((rx_zst z).map (rx_iv r ad xa))) := by
  unfold rx_h_lstore at hz
  split at hz
  · rename_i e0 t he
    split at hz
    · rename_i hi
      cases hz
      have hst := rx_stsc hR
      rw [rx_pl_ok he] at hst ⊢
      refine row _ _ hi fun ls_p hl => ?_
      refine rx_at (K _ List.mem_cons_self) rx_same.rf rx_sameA.rf (rx_R_nxl hR (rx_lv_st2 (v := .inr (1, e0)) hl) (fun q hq => ?_) (fun v hv => hst v (List.mem_cons_of_mem _ hv))) rfl rfl rfl rfl
      rcases List.mem_cons.mp hq with h | h
      · subst h; exact hst _ List.mem_cons_self
      · exact rx_lvsc hR q (rx_del2_mem h)
    · cases hz
  · cases hz
theorem rx_h_astore_ok {i d : Nat} (hR : rx_R D cl A s xa nL H0 z r ad H locs ls) (hz : rx_h_astore nL i d z = some zs)
    (row : ∀ (o : Option Nat) (rest : List Value), i < nL → (∀ ls_p : Array Slot, lv_has ls_p nL ((i, va_rf o) :: (rx_lvs r ad xa (rx_zlv z)).filter (fun q => !(q.1 == i) && !(q.1 + 1 == i && q.2.category == 2))) → W p l e R s m args below meth c H locs z.2.2.2.1 z.2.2.2.2.1 Q (F0 m (rx_zpc z + d) ls_p rest)) → W p l e R s m args below meth c H locs z.2.2.2.1 z.2.2.2.2.1 Q (F0 m (rx_zpc z) ls (va_rf o :: rest)))
    (K : ∀ z_p ∈ zs, rx_G p l e R s m args below meth c Q D cl A xa nL H0 z.1.length z.2.2.1.length r ad z_p) : W p l e R s m args below meth c H locs z.2.2.2.1 z.2.2.2.2.1 Q (F0 m (rx_zpc z) ls ((rx_zst z).map (rx_iv r ad xa))) := by
  unfold rx_h_astore at hz
  split at hz
  · rename_i v t he
    split at hz
    · rename_i hi
      cases hz
      have hst := rx_stsc hR
      rw [rx_pv_ok he] at hst ⊢
      obtain ⟨o, ho⟩ := rx_isRv_ok (r := r) (ad := ad) (xa := xa) hi.1
      show W p l e R s m args below meth c H locs z.2.2.2.1 z.2.2.2.2.1 Q (F0 m (rx_zpc z) ls (rx_iv r ad xa v :: t.map (rx_iv r ad xa)))
      rw [ho]
      refine row _ _ hi.2 fun ls_p hl => ?_
      rw [← ho] at hl
      refine rx_at (K _ List.mem_cons_self) rx_same.rf rx_sameA.rf (rx_R_nxl hR (rx_lv_st (v := v) hl) (fun q hq => ?_) (fun v hv => hst v (List.mem_cons_of_mem _ hv))) rfl rfl rfl rfl
      rcases List.mem_cons.mp hq with h | h
      · subst h; exact hst _ List.mem_cons_self
      · exact rx_lvsc hR q (rx_del_mem h)
    · cases hz
  · cases hz
theorem rx_pushI {kd d : Nat} {I : rx_I} {e0 : rx_E} {t : List rx_V} {r_p : Nat → Int} {w : Value} (hR : rx_R D cl A s xa nL H0 z r ad H locs ls) (ht : ∀ v ∈ t, rx_sc z.1.length z.2.2.1.length v) (hr : rx_same z.1.length r r_p) (hsat : rx_sat I r_p) (hI : z.1.length ≤ I.length) (he : e0.1 < I.length) (hw : rx_iv r_p ad xa (.inr (kd, e0)) = w)
    (K : rx_G p l e R s m args below meth c Q D cl A xa nL H0 z.1.length z.2.2.1.length r ad (rx_nxI I z d (.inr (kd, e0) :: t))) : W p l e R s m args below meth c H locs z.2.2.2.1 z.2.2.2.2.1 Q (F0 m (rx_zpc z + d) ls (w :: t.map (rx_iv r ad xa))) := by
  refine rx_at K hr rx_sameA.rf (rx_R_nxI hR hI hr hsat fun v hv => ?_) rfl rfl rfl ?_
  · rcases List.mem_cons.mp hv with h | h
    · subst h; exact he
    · exact rx_sc.mono (ht v h) hI trivial
  · show rx_iv r_p ad xa (.inr (kd, e0)) :: t.map (rx_iv r_p ad xa) = _
    rw [hw, rx_st_ext ht hr rx_sameA.rf]
theorem rx_fact_big {K : Nat} {a b : rx_E} (h : 1000000 ≤ K) (hf : rx_ev r a = rx_ev r b + rx_ev r (bx_de (K / 1000000))) : rx_fact r (K, a, b) := by
  obtain ⟨k, rfl⟩ : ∃ k, K = k + 4 := ⟨K - 4, by omega⟩
  show if k < 999996 then rx_ev r a = (k : Int) * rx_ev r b else rx_ev r a = rx_ev r b + rx_ev r (bx_de ((k + 4) / 1000000))
  rw [if_neg (by omega)]
  exact hf
theorem rx_fact_mul {k : Nat} {a b : rx_E} (h : k < 999996) (hf : rx_ev r a = (k : Int) * rx_ev r b) : rx_fact r (k + 4, a, b) := by
  show if k < 999996 then rx_ev r a = (k : Int) * rx_ev r b else rx_ev r a = rx_ev r b + rx_ev r (bx_de ((k + 4) / 1000000))
  rw [if_pos h]
  exact hf
theorem rx_fm_ok {o : Nat} {I I2 : rx_I} {r_p : Nat → Int} {e0 a b : rx_E} (hs : rx_sat I r) (hs2 : rx_sat I2 r_p) (hr : rx_same I.length r r_p) (hN : I.length ≤ I2.length) (he : e0.1 < I2.length) (hq : Int32.ofInt (rx_ev r_p e0) = rx_op o (Int32.ofInt (rx_ev r a)) (Int32.ofInt (rx_ev r b))) :
    ∀ f ∈ rx_fm o I.length e0 a b (rx_bi I a) (rx_bi I b) (rx_bi I2 e0), rx_fact r_p f ∧ f.2.1.1 < I2.length ∧ f.2.2.1 < I2.length ∧ (1000000 ≤ f.1 → (bx_de (f.1 / 1000000)).1 < I2.length) := by
  intro f hf
  unfold rx_fm at hf
  split at hf
  · rename_i al ah bl bh q hba hbb hbe
    obtain ⟨el, eh⟩ := q
    obtain ⟨a1, a2, a3, a4⟩ := rx_bi_ok hs hba
    obtain ⟨b1, b2, b3, b4⟩ := rx_bi_ok hs hbb
    obtain ⟨-, -, c3, -⟩ := rx_bi_ok hs2 hbe
    rw [hq] at c3
    have ea := rx_ev_ext a4 hr
    have eb := rx_ev_ext b4 hr
    split at hf
    · split at hf
      · split at hf
        · rename_i hc
          obtain ⟨k1, k2, k3, k4⟩ := hc
          have hf2 := List.mem_singleton.mp hf
          subst hf2
          have e1 : (Int32.ofInt (rx_ev r a) + Int32.ofInt (rx_ev r b)).toInt = rx_ev r a + rx_ev r b := by
            rw [Int32.toInt_add, a3, b3]
            exact rx_bmod0 (by omega) (by omega)
          have c3 : (Int32.ofInt (rx_ev r a) + Int32.ofInt (rx_ev r b)).toInt = rx_ev r_p e0 := c3
          have e5 : 1000000 * bx_en b / 1000000 = bx_en b := Nat.mul_div_cancel_left _ (by omega)
          refine ⟨rx_fact_big (by omega) ?_, he, Nat.lt_of_lt_of_le a4 hN, fun _ => ?_⟩
          · rw [e5, k4, ea, eb, ← c3, e1]
          · show (bx_de (1000000 * bx_en b / 1000000)).1 < _
            rw [e5, k4]
            exact Nat.lt_of_lt_of_le b4 hN
        · exact absurd hf List.not_mem_nil
      · split at hf
        · rename_i hc
          obtain ⟨k1, k2, k3, k4⟩ := hc
          have hf2 := List.mem_singleton.mp hf
          subst hf2
          have e1 : (Int32.ofInt (rx_ev r a) - Int32.ofInt (rx_ev r b)).toInt = rx_ev r a - rx_ev r b := by
            rw [Int32.toInt_sub, a3, b3]
            exact rx_bmod0 (by omega) (by omega)
          have c3 : (Int32.ofInt (rx_ev r a) - Int32.ofInt (rx_ev r b)).toInt = rx_ev r_p e0 := c3
          have e5 : 1000000 * bx_en b / 1000000 = bx_en b := Nat.mul_div_cancel_left _ (by omega)
          refine ⟨rx_fact_big (by omega) ?_, Nat.lt_of_lt_of_le a4 hN, he, fun _ => ?_⟩
          · rw [e5, k4, ea, eb, ← c3, e1]
            omega
          · show (bx_de (1000000 * bx_en b / 1000000)).1 < _
            rw [e5, k4]
            exact Nat.lt_of_lt_of_le b4 hN
        · exact absurd hf List.not_mem_nil
      · split at hf
        · rename_i hc
          obtain ⟨k1, k2, k3⟩ := hc
          obtain ⟨g1, g2⟩ := rx_mulb0 (a := rx_ev r a) (b := rx_ev r b) (by omega) a2 (by omega) b2
          have e1 : (Int32.ofInt (rx_ev r a) * Int32.ofInt (rx_ev r b)).toInt = rx_ev r a * rx_ev r b := by
            rw [Int32.toInt_mul, a3, b3]
            exact rx_bmod0 (by omega) (by omega)
          have c3 : (Int32.ofInt (rx_ev r a) * Int32.ofInt (rx_ev r b)).toInt = rx_ev r_p e0 := c3
          split at hf
          · rename_i hc2
            have hf2 := List.mem_singleton.mp hf
            subst hf2
            have e6 : rx_ev r b = b.2 := by
              unfold rx_ev
              rw [hc2.1, hs.1, Int.zero_add]
            refine ⟨rx_fact_mul (by omega) ?_, he, Nat.lt_of_lt_of_le a4 hN, fun q => absurd q (by show ¬ 1000000 ≤ b.2.toNat + 4; omega)⟩
            rw [ea, ← c3, e1, e6, Int.mul_comm]
            congr 1
            omega
          · split at hf
            · rename_i hc2
              have hf2 := List.mem_singleton.mp hf
              subst hf2
              have e6 : rx_ev r a = a.2 := by
                unfold rx_ev
                rw [hc2.1, hs.1, Int.zero_add]
              refine ⟨rx_fact_mul (by omega) ?_, he, Nat.lt_of_lt_of_le b4 hN, fun q => absurd q (by show ¬ 1000000 ≤ a.2.toNat + 4; omega)⟩
              rw [eb, ← c3, e1, e6]
              congr 1
              omega
            · exact absurd hf List.not_mem_nil
        · exact absurd hf List.not_mem_nil
      · exact absurd hf List.not_mem_nil
    · exact absurd hf List.not_mem_nil
  · exact absurd hf List.not_mem_nil
theorem rx_h_bin_ok {o : Nat} (hR : rx_R D cl A s xa nL H0 z r ad H locs ls) (hz : rx_h_bin o z = some zs)
    (row : ∀ (a b : rx_E) (t : List rx_V), rx_zst z = .inr (0, b) :: .inr (0, a) :: t → W p l e R s m args below meth c H locs z.2.2.2.1 z.2.2.2.2.1 Q (F0 m (rx_zpc z + 1) ls (.int (rx_op o (Int32.ofInt (rx_ev r a)) (Int32.ofInt (rx_ev r b))) :: t.map (rx_iv r ad xa))) → W p l e R s m args below meth c H locs z.2.2.2.1 z.2.2.2.2.1 Q (F0 m (rx_zpc z) ls (.int (Int32.ofInt (rx_ev r b)) :: .int (Int32.ofInt (rx_ev r a)) :: t.map (rx_iv r ad xa))))
    (K : ∀ z_p ∈ zs, rx_G p l e R s m args below meth c Q D cl A xa nL H0 z.1.length z.2.2.1.length r ad z_p) : W p l e R s m args below meth c H locs z.2.2.2.1 z.2.2.2.2.1 Q (F0 m (rx_zpc z) ls ((rx_zst z).map (rx_iv r ad xa))) := by
  unfold rx_h_bin at hz
  split at hz
  · rename_i b t hb
    split at hz
    · rename_i a t2 ha
      split at hz
      · rename_i I2 e2 he
        cases hz
        have e1 := rx_pi_ok hb
        have e3 := rx_pi_ok ha
        subst e3
        have hst := rx_stsc hR
        obtain ⟨r_p, q1, q2, q3, q4, q5⟩ := rx_bin_ok hR.1 he
        have rw1 := row a b t2 e1
        rw [e1] at hst ⊢
        have ht2 : ∀ v ∈ t2, rx_sc z.1.length z.2.2.1.length v := fun v hv => hst v (List.mem_cons_of_mem _ (List.mem_cons_of_mem _ hv))
        have hN := rx_R_nxI (d := 1) (st := .inr (0, e2) :: t2) hR q4 q1 q2 (fun v hv => by
          rcases List.mem_cons.mp hv with h | h
          · subst h; exact q5
          · exact rx_sc.mono (ht2 v h) q4 trivial)
        have f1 := rx_fm_ok (o := o) (a := rx_nm z.1 a) (b := rx_nm z.1 b) hR.1 q2 q1 q4 q5 (by rw [(rx_nm_ok (e := a) hR.1).1, (rx_nm_ok (e := b) hR.1).1]; exact q3)
        refine rw1 (rx_at (K _ List.mem_cons_self) q1 rx_sameA.rf (⟨q2, fun f hf => ?_, fun f hf => ?_, hN.2.2.2⟩ : rx_R D cl A s xa nL H0 (rx_nxIF I2 (rx_fm o z.1.length e2 (rx_nm z.1 a) (rx_nm z.1 b) (rx_bi z.1 (rx_nm z.1 a)) (rx_bi z.1 (rx_nm z.1 b)) (rx_bi I2 e2) ++ z.2.1) z 1 (.inr (0, e2) :: t2)) r_p ad H locs ls) rfl rfl rfl ?_ (by show z.1.length ≤ I2.length; exact q4))
        · rcases List.mem_append.mp hf with h | h
          · exact (f1 f h).1
          · exact hN.2.1 f h
        · rcases List.mem_append.mp hf with h | h
          · exact (f1 f h).2
          · exact hN.2.2.1 f h
        · show rx_iv r_p ad xa (.inr (0, e2)) :: t2.map (rx_iv r_p ad xa) = _
          rw [show rx_iv r_p ad xa (.inr (0, e2)) = Value.int (rx_op o (Int32.ofInt (rx_ev r a)) (Int32.ofInt (rx_ev r b))) by show Value.int (Int32.ofInt (rx_ev r_p e2)) = _; rw [q3], rx_st_ext ht2 q1 rx_sameA.rf]
      · cases hz
    · cases hz
  · cases hz
theorem rx_sb_ok {I I2 : rx_I} {F : rx_F} {r_p : Nat → Int} {e0 a b : rx_E} (hs : rx_sat I r) (hF : rx_facts F r) (hfs : rx_fsc I.length F) (hs2 : rx_sat I2 r_p) (hr : rx_same I.length r r_p) (hq : Int32.ofInt (rx_ev r_p e0) = rx_op 1 (Int32.ofInt (rx_ev r a)) (Int32.ofInt (rx_ev r b))) :
    rx_sat (rx_sb I F a b I2 e0) r_p ∧ (rx_sb I F a b I2 e0).length = I2.length := by
  unfold rx_sb
  split
  · rename_i al ah bl bh lo hi hba hbb hbe
    obtain ⟨a1, a2, a3, a4⟩ := rx_bi_ok hs hba
    obtain ⟨b1, b2, b3, b4⟩ := rx_bi_ok hs hbb
    obtain ⟨d1, d2, c3, -⟩ := rx_bi_ok hs2 hbe
    split
    · rename_i hc
      obtain ⟨k1, k2, k3, k4⟩ := hc
      have hle : rx_ev r b ≤ rx_ev r a := by
        refine Int.not_lt.mp fun hlt => ?_
        obtain ⟨I3, F3, h3, -⟩ := rx_asm_ok (c := 0) (by omega) hs hF hfs a4 b4 ⟨a1, a2⟩ ⟨b1, b2⟩ (show rx_fact r (0, a, b) from hlt)
        rw [h3] at k4
        cases k4
      rw [hq] at c3
      have c3 : (Int32.ofInt (rx_ev r a) - Int32.ofInt (rx_ev r b)).toInt = rx_ev r_p e0 := c3
      rw [Int32.toInt_sub, a3, b3, rx_bmod0 (by omega) (by omega)] at c3
      subst k2
      have e1 : rx_ev r_p (I.length, 0) = r_p I.length := by
        unfold rx_ev
        dsimp only
        omega
      rw [e1] at c3
      exact ⟨rx_cap_ok hs2 (by dsimp only; omega) (by dsimp only; omega), rx_cap_len⟩
    · exact ⟨hs2, rfl⟩
  · exact ⟨hs2, rfl⟩
theorem rx_h_sub_ok (hR : rx_R D cl A s xa nL H0 z r ad H locs ls) (hz : rx_h_sub z = some zs)
    (row : ∀ (a b : rx_E) (t : List rx_V), rx_zst z = .inr (0, b) :: .inr (0, a) :: t → W p l e R s m args below meth c H locs z.2.2.2.1 z.2.2.2.2.1 Q (F0 m (rx_zpc z + 1) ls (.int (rx_op 1 (Int32.ofInt (rx_ev r a)) (Int32.ofInt (rx_ev r b))) :: t.map (rx_iv r ad xa))) → W p l e R s m args below meth c H locs z.2.2.2.1 z.2.2.2.2.1 Q (F0 m (rx_zpc z) ls (.int (Int32.ofInt (rx_ev r b)) :: .int (Int32.ofInt (rx_ev r a)) :: t.map (rx_iv r ad xa))))
    (K : ∀ z_p ∈ zs, rx_G p l e R s m args below meth c Q D cl A xa nL H0 z.1.length z.2.2.1.length r ad z_p) : W p l e R s m args below meth c H locs z.2.2.2.1 z.2.2.2.2.1 Q (F0 m (rx_zpc z) ls ((rx_zst z).map (rx_iv r ad xa))) := by
  unfold rx_h_sub at hz
  split at hz
  · rename_i b t hb
    split at hz
    · rename_i a t2 ha
      split at hz
      · rename_i I2 e2 he
        cases hz
        have e1 := rx_pi_ok hb
        have e3 := rx_pi_ok ha
        subst e3
        have hst := rx_stsc hR
        obtain ⟨r_p, q1, q2, q3, q4, q5⟩ := rx_bin_ok hR.1 he
        have rw1 := row a b t2 e1
        rw [e1] at hst ⊢
        have ht2 : ∀ v ∈ t2, rx_sc z.1.length z.2.2.1.length v := fun v hv => hst v (List.mem_cons_of_mem _ (List.mem_cons_of_mem _ hv))
        have q3n : Int32.ofInt (rx_ev r_p e2) = rx_op 1 (Int32.ofInt (rx_ev r (rx_nm z.1 a))) (Int32.ofInt (rx_ev r (rx_nm z.1 b))) := by rw [(rx_nm_ok (e := a) hR.1).1, (rx_nm_ok (e := b) hR.1).1]; exact q3
        obtain ⟨s1, s2⟩ := rx_sb_ok hR.1 hR.2.1 hR.2.2.1 q2 q1 q3n
        have q4_p : z.1.length ≤ (rx_sb z.1 z.2.1 (rx_nm z.1 a) (rx_nm z.1 b) I2 e2).length := by rw [s2]; exact q4
        have q5_p : e2.1 < (rx_sb z.1 z.2.1 (rx_nm z.1 a) (rx_nm z.1 b) I2 e2).length := by rw [s2]; exact q5
        have hN := rx_R_nxI (d := 1) (st := .inr (0, e2) :: t2) hR q4_p q1 s1 (fun v hv => by
          rcases List.mem_cons.mp hv with h | h
          · subst h; exact q5_p
          · exact rx_sc.mono (ht2 v h) q4_p trivial)
        have f1 := rx_fm_ok (o := 1) (a := rx_nm z.1 a) (b := rx_nm z.1 b) hR.1 q2 q1 q4 q5 q3n
        refine rw1 (rx_at (K _ List.mem_cons_self) q1 rx_sameA.rf (⟨s1, fun f hf => ?_, fun f hf => ?_, hN.2.2.2⟩ : rx_R D cl A s xa nL H0 (rx_nxIF (rx_sb z.1 z.2.1 (rx_nm z.1 a) (rx_nm z.1 b) I2 e2) (rx_fm 1 z.1.length e2 (rx_nm z.1 a) (rx_nm z.1 b) (rx_bi z.1 (rx_nm z.1 a)) (rx_bi z.1 (rx_nm z.1 b)) (rx_bi I2 e2) ++ z.2.1) z 1 (.inr (0, e2) :: t2)) r_p ad H locs ls) rfl rfl rfl ?_ (by show z.1.length ≤ (rx_sb z.1 z.2.1 (rx_nm z.1 a) (rx_nm z.1 b) I2 e2).length; exact q4_p))
        · rcases List.mem_append.mp hf with h | h
          · exact (f1 f h).1
          · exact hN.2.1 f h
        · show f.2.1.1 < (rx_sb z.1 z.2.1 (rx_nm z.1 a) (rx_nm z.1 b) I2 e2).length ∧ f.2.2.1 < (rx_sb z.1 z.2.1 (rx_nm z.1 a) (rx_nm z.1 b) I2 e2).length ∧ (1000000 ≤ f.1 → (bx_de (f.1 / 1000000)).1 < (rx_sb z.1 z.2.1 (rx_nm z.1 a) (rx_nm z.1 b) I2 e2).length)
          rcases List.mem_append.mp hf with h | h
          · rw [s2]
            exact (f1 f h).2
          · exact hN.2.2.1 f h
        · show rx_iv r_p ad xa (.inr (0, e2)) :: t2.map (rx_iv r_p ad xa) = _
          rw [show rx_iv r_p ad xa (.inr (0, e2)) = Value.int (rx_op 1 (Int32.ofInt (rx_ev r a)) (Int32.ofInt (rx_ev r b))) by show Value.int (Int32.ofInt (rx_ev r_p e2)) = _; rw [q3], rx_st_ext ht2 q1 rx_sameA.rf]
      · cases hz
    · cases hz
  · cases hz
theorem rx_fa_ok {I I2 : rx_I} {r_p : Nat → Int} {e0 a : rx_E} (hs : rx_sat I r) (hr : rx_same I.length r r_p) (hN : I.length ≤ I2.length) (he : e0.1 < I2.length) (hle : 0 ≤ (Int32.ofInt (rx_ev r a)).toInt → rx_ev r_p e0 ≤ (Int32.ofInt (rx_ev r a)).toInt) : ∀ f ∈ rx_fa e0 a (rx_bi I a), rx_fact r_p f ∧ f.2.1.1 < I2.length ∧ f.2.2.1 < I2.length ∧ (1000000 ≤ f.1 → (bx_de (f.1 / 1000000)).1 < I2.length) := by
  intro f hf
  unfold rx_fa at hf
  split at hf
  · rename_i lo hi hb
    split at hf
    · rename_i h0
      obtain ⟨p1, p2, p3, p4⟩ := rx_bi_ok hs hb
      have hf2 := List.mem_singleton.mp hf
      subst hf2
      rw [p3] at hle
      refine ⟨?_, he, Nat.lt_of_lt_of_le p4 hN, fun q => absurd q (by show ¬ 1000000 ≤ 1; omega)⟩
      show rx_ev r_p e0 ≤ rx_ev r_p a
      rw [rx_ev_ext p4 hr]
      exact hle (by omega)
    · exact absurd hf List.not_mem_nil
  · exact absurd hf List.not_mem_nil
theorem rx_h_and_ok (hR : rx_R D cl A s xa nL H0 z r ad H locs ls) (hz : rx_h_and z = some zs)
    (row : ∀ (a b : rx_E) (t : List rx_V), rx_zst z = .inr (0, b) :: .inr (0, a) :: t → W p l e R s m args below meth c H locs z.2.2.2.1 z.2.2.2.2.1 Q (F0 m (rx_zpc z + 1) ls (.int (rx_op 5 (Int32.ofInt (rx_ev r a)) (Int32.ofInt (rx_ev r b))) :: t.map (rx_iv r ad xa))) → W p l e R s m args below meth c H locs z.2.2.2.1 z.2.2.2.2.1 Q (F0 m (rx_zpc z) ls (.int (Int32.ofInt (rx_ev r b)) :: .int (Int32.ofInt (rx_ev r a)) :: t.map (rx_iv r ad xa))))
    (K : ∀ z_p ∈ zs, rx_G p l e R s m args below meth c Q D cl A xa nL H0 z.1.length z.2.2.1.length r ad z_p) : W p l e R s m args below meth c H locs z.2.2.2.1 z.2.2.2.2.1 Q (F0 m (rx_zpc z) ls ((rx_zst z).map (rx_iv r ad xa))) := by
  unfold rx_h_and at hz
  split at hz
  · rename_i b t hb
    split at hz
    · rename_i a t2 ha
      split at hz
      · rename_i I2 e2 he
        have e1 := rx_pi_ok hb
        have e3 := rx_pi_ok ha
        subst e3
        have hst := rx_stsc hR
        obtain ⟨r_p, q1, q2, q3, q4, q5⟩ := rx_bin_ok hR.1 he
        have rw1 := row a b t2 e1
        rw [e1] at hst ⊢
        have ht2 : ∀ v ∈ t2, rx_sc z.1.length z.2.2.1.length v := fun v hv => hst v (List.mem_cons_of_mem _ (List.mem_cons_of_mem _ hv))
        have hw : rx_iv r_p ad xa (.inr (0, e2)) = Value.int (rx_op 5 (Int32.ofInt (rx_ev r a)) (Int32.ofInt (rx_ev r b))) := by
          show Value.int (Int32.ofInt (rx_ev r_p e2)) = _
          rw [q3]
        split at hz
        · rename_i q hbi
          obtain ⟨lo, hi⟩ := q
          cases hz
          obtain ⟨-, -, b3, -⟩ := rx_bi_ok q2 hbi
          rw [q3] at b3
          have b3 : (Int32.ofInt (rx_ev r a) &&& Int32.ofInt (rx_ev r b)).toInt = rx_ev r_p e2 := b3
          have hN := rx_R_nxI (d := 1) (st := .inr (0, e2) :: t2) hR q4 q1 q2 (fun v hv => by
            rcases List.mem_cons.mp hv with h | h
            · subst h; exact q5
            · exact rx_sc.mono (ht2 v h) q4 trivial)
          have f1 := rx_fa_ok (a := a) hR.1 q1 q4 q5 (fun h => by rw [← b3]; exact (rx_andb h).2)
          have f2 := rx_fa_ok (a := b) hR.1 q1 q4 q5 (fun h => by rw [← b3]; exact (rx_andb2 h).2)
          refine rw1 (rx_at (K _ List.mem_cons_self) q1 rx_sameA.rf (⟨q2, fun f hf => ?_, fun f hf => ?_, hN.2.2.2⟩ : rx_R D cl A s xa nL H0 (rx_nxIF I2 (rx_fa e2 a (rx_bi z.1 a) ++ (rx_fa e2 b (rx_bi z.1 b) ++ z.2.1)) z 1 (.inr (0, e2) :: t2)) r_p ad H locs ls) rfl rfl rfl ?_ (by show z.1.length ≤ I2.length; exact q4))
          · rcases List.mem_append.mp hf with h | h
            · exact (f1 f h).1
            · rcases List.mem_append.mp h with h | h
              · exact (f2 f h).1
              · exact hN.2.1 f h
          · rcases List.mem_append.mp hf with h | h
            · exact (f1 f h).2
            · rcases List.mem_append.mp h with h | h
              · exact (f2 f h).2
              · exact hN.2.2.1 f h
          · show rx_iv r_p ad xa (.inr (0, e2)) :: t2.map (rx_iv r_p ad xa) = _
            rw [hw, rx_st_ext ht2 q1 rx_sameA.rf]
        · cases hz
          exact rw1 (rx_pushI hR ht2 q1 q2 q4 q5 hw (K _ List.mem_cons_self))
      · cases hz
    · cases hz
  · cases hz
theorem rx_nzF_ok {I : rx_I} {F : rx_F} {b : rx_E} {o : Option (Int × Int)} (hs : rx_sat I r) (hF : rx_facts F r) (h : rx_nzF F b o = true) : ¬ rx_ev r b = 0 ∧ ∃ lo hi, o = some (lo, hi) := by
  unfold rx_nzF at h
  rw [Bool.and_eq_true, Bool.or_eq_true] at h
  obtain ⟨h1, h2⟩ := h
  refine ⟨fun h0 => ?_, ?_⟩
  · have g1 : rx_fact r (2, b, (0, 0)) := by
      show rx_ev r b = rx_ev r (0, 0)
      rw [rx_ev0 hs, h0]
    have g2 : rx_fact r (2, (0, 0), b) := by
      show rx_ev r (0, 0) = rx_ev r b
      rw [rx_ev0 hs, h0]
    rcases h2 with h2 | h2
    · obtain ⟨f, hf, hq⟩ := List.any_eq_true.mp h2
      rw [rx_no_ok (by decide) (hF f hf) g1] at hq
      cases hq
    · obtain ⟨f, hf, hq⟩ := List.any_eq_true.mp h2
      rw [rx_no_ok (by decide) (hF f hf) g2] at hq
      cases hq
  · cases o with
    | none => cases h1
    | some q => exact ⟨q.1, q.2, rfl⟩
theorem rx_nz_ok {I : rx_I} {b : rx_E} (h : rx_sat I r) (hn : rx_nz (rx_bi I b) = true) : ¬ Int32.ofInt (rx_ev r b) = 0 := by
  unfold rx_nz at hn
  split at hn
  · rename_i lo hi he
    obtain ⟨h1, h2, h3, -⟩ := rx_bi_ok h he
    intro q
    rw [q, Int32.toInt_zero] at h3
    rw [Bool.or_eq_true, decide_eq_true_eq, decide_eq_true_eq] at hn
    omega
  · exact absurd hn Bool.false_ne_true
theorem rx_nzL_ok {I : rx_I} {b : rx_E} (h : rx_sat I r) (hn : rx_nz (rx_bl I b) = true) : ¬ Int64.ofInt (rx_ev r b) = 0 := by
  unfold rx_nz at hn
  split at hn
  · rename_i lo hi he
    obtain ⟨h1, h2, h3, -⟩ := rx_bl_ok h he
    intro q
    rw [q, Int64.toInt_zero] at h3
    rw [Bool.or_eq_true, decide_eq_true_eq, decide_eq_true_eq] at hn
    omega
  · exact absurd hn Bool.false_ne_true
theorem rx_h_div_ok {o : Nat} (hR : rx_R D cl A s xa nL H0 z r ad H locs ls) (hz : rx_h_div o z = some zs)
    (row : ∀ (x y : Int32) (rest : List Value), ¬ y = 0 → W p l e R s m args below meth c H locs z.2.2.2.1 z.2.2.2.2.1 Q (F0 m (rx_zpc z + 1) ls (.int (rx_op o x y) :: rest)) → W p l e R s m args below meth c H locs z.2.2.2.1 z.2.2.2.2.1 Q (F0 m (rx_zpc z) ls (.int y :: .int x :: rest)))
    (K : ∀ z_p ∈ zs, rx_G p l e R s m args below meth c Q D cl A xa nL H0 z.1.length z.2.2.1.length r ad z_p) : W p l e R s m args below meth c H locs z.2.2.2.1 z.2.2.2.2.1 Q (F0 m (rx_zpc z) ls ((rx_zst z).map (rx_iv r ad xa))) := by
  unfold rx_h_div at hz
  split at hz
  · rename_i b t hb
    split at hz
    · rename_i hn
      refine rx_h_bin_ok hR hz (fun a b_p t_p e k => row _ _ _ ?_ k) K
      have e1 := rx_pi_ok hb
      rw [e] at e1
      cases e1
      rw [Bool.or_eq_true] at hn
      rcases hn with hn | hn
      · exact rx_nz_ok hR.1 hn
      · obtain ⟨n1, lo, hi, n2⟩ := rx_nzF_ok hR.1 hR.2.1 hn
        obtain ⟨-, -, n3, -⟩ := rx_bi_ok hR.1 n2
        intro q
        rw [q, Int32.toInt_zero] at n3
        exact n1 n3.symm
    · cases hz
  · cases hz
theorem rx_h_binL_ok {o : Nat} (hR : rx_R D cl A s xa nL H0 z r ad H locs ls) (hz : rx_h_binL o z = some zs)
    (row : ∀ (a b : rx_E) (t : List rx_V), rx_zst z = .inr (1, b) :: .inr (1, a) :: t → W p l e R s m args below meth c H locs z.2.2.2.1 z.2.2.2.2.1 Q (F0 m (rx_zpc z + 1) ls (.long (rx_opL o (Int64.ofInt (rx_ev r a)) (Int64.ofInt (rx_ev r b))) :: t.map (rx_iv r ad xa))) → W p l e R s m args below meth c H locs z.2.2.2.1 z.2.2.2.2.1 Q (F0 m (rx_zpc z) ls (.long (Int64.ofInt (rx_ev r b)) :: .long (Int64.ofInt (rx_ev r a)) :: t.map (rx_iv r ad xa))))
    (K : ∀ z_p ∈ zs, rx_G p l e R s m args below meth c Q D cl A xa nL H0 z.1.length z.2.2.1.length r ad z_p) : W p l e R s m args below meth c H locs z.2.2.2.1 z.2.2.2.2.1 Q (F0 m (rx_zpc z) ls ((rx_zst z).map (rx_iv r ad xa))) := by
  unfold rx_h_binL at hz
  split at hz
  · rename_i b t hb
    split at hz
    · rename_i a t2 ha
      cases hz
      have e1 := rx_pl_ok hb
      have e3 := rx_pl_ok ha
      subst e3
      have hst := rx_stsc hR
      obtain ⟨r_p, q1, q2, q3, q4, q5⟩ := rx_binL_ok (o := o) (a := a) (b := b) hR.1
      have rw1 := row a b t2 e1
      rw [e1] at hst ⊢
      exact rw1 (rx_pushI hR (fun v hv => hst v (List.mem_cons_of_mem _ (List.mem_cons_of_mem _ hv))) q1 q2 q4 q5 (by show Value.long (Int64.ofInt (rx_ev r_p _)) = _; rw [q3]) (K _ List.mem_cons_self))
    · cases hz
  · cases hz
theorem rx_h_divL_ok {o : Nat} (hR : rx_R D cl A s xa nL H0 z r ad H locs ls) (hz : rx_h_divL o z = some zs)
    (row : ∀ (x y : Int64) (rest : List Value), ¬ y = 0 → W p l e R s m args below meth c H locs z.2.2.2.1 z.2.2.2.2.1 Q (F0 m (rx_zpc z + 1) ls (.long (rx_opL o x y) :: rest)) → W p l e R s m args below meth c H locs z.2.2.2.1 z.2.2.2.2.1 Q (F0 m (rx_zpc z) ls (.long y :: .long x :: rest)))
    (K : ∀ z_p ∈ zs, rx_G p l e R s m args below meth c Q D cl A xa nL H0 z.1.length z.2.2.1.length r ad z_p) : W p l e R s m args below meth c H locs z.2.2.2.1 z.2.2.2.2.1 Q (F0 m (rx_zpc z) ls ((rx_zst z).map (rx_iv r ad xa))) := by
  unfold rx_h_divL at hz
  split at hz
  · rename_i b t hb
    split at hz
    · rename_i hn
      refine rx_h_binL_ok hR hz (fun a b_p t_p e k => row _ _ _ ?_ k) K
      have e1 := rx_pl_ok hb
      rw [e] at e1
      cases e1
      rw [Bool.or_eq_true] at hn
      rcases hn with hn | hn
      · exact rx_nzL_ok hR.1 hn
      · obtain ⟨n1, lo, hi, n2⟩ := rx_nzF_ok hR.1 hR.2.1 hn
        obtain ⟨-, -, n3, -⟩ := rx_bl_ok hR.1 n2
        intro q
        rw [q, Int64.toInt_zero] at n3
        exact n1 n3.symm
    · cases hz
  · cases hz
theorem rx_h_ineg_ok (hR : rx_R D cl A s xa nL H0 z r ad H locs ls) (hz : rx_h_ineg z = some zs)
    (row : ∀ (x : Int32) (rest : List Value), W p l e R s m args below meth c H locs z.2.2.2.1 z.2.2.2.2.1 Q (F0 m (rx_zpc z + 1) ls (.int (-x) :: rest)) → W p l e R s m args below meth c H locs z.2.2.2.1 z.2.2.2.2.1 Q (F0 m (rx_zpc z) ls (.int x :: rest)))
    (K : ∀ z_p ∈ zs, rx_G p l e R s m args below meth c Q D cl A xa nL H0 z.1.length z.2.2.1.length r ad z_p) : W p l e R s m args below meth c H locs z.2.2.2.1 z.2.2.2.2.1 Q (F0 m (rx_zpc z) ls ((rx_zst z).map (rx_iv r ad xa))) := by
  unfold rx_h_ineg at hz
  split at hz
  · rename_i a t ha
    split at hz
    · rename_i I2 e2 he
      cases hz
      have hst := rx_stsc hR
      obtain ⟨r_p, q1, q2, q3, q4, q5⟩ := rx_bin_ok hR.1 he
      rw [rx_pi_ok ha] at hst ⊢
      refine row _ _ (rx_pushI hR (fun v hv => hst v (List.mem_cons_of_mem _ hv)) q1 q2 q4 q5 ?_ (K _ List.mem_cons_self))
      show Value.int (Int32.ofInt (rx_ev r_p e2)) = _
      rw [q3, rx_ev0 hR.1]
      show Value.int (Int32.ofInt 0 - _) = _
      rw [show Int32.ofInt 0 = 0 from rfl, Int32.zero_sub]
    · cases hz
  · cases hz
theorem rx_h_i2l_ok (hR : rx_R D cl A s xa nL H0 z r ad H locs ls) (hz : rx_h_i2l z = some zs)
    (row : ∀ (x : Int32) (rest : List Value), W p l e R s m args below meth c H locs z.2.2.2.1 z.2.2.2.2.1 Q (F0 m (rx_zpc z + 1) ls (.long x.toInt64 :: rest)) → W p l e R s m args below meth c H locs z.2.2.2.1 z.2.2.2.2.1 Q (F0 m (rx_zpc z) ls (.int x :: rest)))
    (K : ∀ z_p ∈ zs, rx_G p l e R s m args below meth c Q D cl A xa nL H0 z.1.length z.2.2.1.length r ad z_p) : W p l e R s m args below meth c H locs z.2.2.2.1 z.2.2.2.2.1 Q (F0 m (rx_zpc z) ls ((rx_zst z).map (rx_iv r ad xa))) := by
  unfold rx_h_i2l at hz
  split at hz
  · rename_i a t ha
    split at hz
    · rename_i b he
      cases hz
      have hst := rx_stsc hR
      obtain ⟨lo, hi⟩ := b
      obtain ⟨h1, h2, h3, h4⟩ := rx_bi_ok hR.1 he
      rw [rx_pi_ok ha] at hst ⊢
      refine row _ _ (rx_at (K _ List.mem_cons_self) rx_same.rf rx_sameA.rf (rx_R_nx hR fun v hv => ?_) rfl rfl rfl ?_)
      · rcases List.mem_cons.mp hv with h | h
        · subst h; exact h4
        · exact hst v (List.mem_cons_of_mem _ h)
      · show Value.long (Int64.ofInt (rx_ev r a)) :: _ = Value.long (Int32.ofInt (rx_ev r a)).toInt64 :: _
        congr 2
        have h5 := rx_b32 (Int32.ofInt (rx_ev r a))
        rw [h3] at h5
        apply Int64.toInt_inj.mp
        rw [rx_i64 (by omega) (by omega), Int32.toInt_toInt64, h3]
    · cases hz
  · cases hz
theorem rx_h_dup_ok (hR : rx_R D cl A s xa nL H0 z r ad H locs ls) (hz : rx_h_dup z = some zs)
    (row : ∀ (v : Value) (rest : List Value), v.category = 1 → W p l e R s m args below meth c H locs z.2.2.2.1 z.2.2.2.2.1 Q (F0 m (rx_zpc z + 1) ls (v :: v :: rest)) → W p l e R s m args below meth c H locs z.2.2.2.1 z.2.2.2.2.1 Q (F0 m (rx_zpc z) ls (v :: rest)))
    (K : ∀ z_p ∈ zs, rx_G p l e R s m args below meth c Q D cl A xa nL H0 z.1.length z.2.2.1.length r ad z_p) : W p l e R s m args below meth c H locs z.2.2.2.1 z.2.2.2.2.1 Q (F0 m (rx_zpc z) ls ((rx_zst z).map (rx_iv r ad xa))) := by
  unfold rx_h_dup at hz
  split at hz
  · rename_i v t hv
    split at hz
    · cases hz
    · rename_i hk
      cases hz
      have hst := rx_stsc hR
      rw [rx_pv_ok hv] at hst ⊢
      refine row _ _ (rx_cat (Bool.eq_false_iff.mpr hk)) (rx_at (K _ List.mem_cons_self) rx_same.rf rx_sameA.rf (rx_R_nx hR fun x hx => ?_) rfl rfl rfl rfl)
      rcases List.mem_cons.mp hx with h | h
      · subst h; exact hst _ List.mem_cons_self
      · exact hst x h
  · cases hz
theorem rx_h_pop_ok (hR : rx_R D cl A s xa nL H0 z r ad H locs ls) (hz : rx_h_pop z = some zs)
    (row : ∀ (v : Value) (rest : List Value), v.category = 1 → W p l e R s m args below meth c H locs z.2.2.2.1 z.2.2.2.2.1 Q (F0 m (rx_zpc z + 1) ls rest) → W p l e R s m args below meth c H locs z.2.2.2.1 z.2.2.2.2.1 Q (F0 m (rx_zpc z) ls (v :: rest)))
    (K : ∀ z_p ∈ zs, rx_G p l e R s m args below meth c Q D cl A xa nL H0 z.1.length z.2.2.1.length r ad z_p) : W p l e R s m args below meth c H locs z.2.2.2.1 z.2.2.2.2.1 Q (F0 m (rx_zpc z) ls ((rx_zst z).map (rx_iv r ad xa))) := by
  unfold rx_h_pop at hz
  split at hz
  · rename_i v t hv
    split at hz
    · cases hz
    · rename_i hk
      cases hz
      have hst := rx_stsc hR
      rw [rx_pv_ok hv] at hst ⊢
      exact row _ _ (rx_cat (Bool.eq_false_iff.mpr hk)) (rx_at (K _ List.mem_cons_self) rx_same.rf rx_sameA.rf (rx_R_nx hR fun x hx => hst x (List.mem_cons_of_mem _ hx)) rfl rfl rfl rfl)
  · cases hz
theorem rx_h_dup2_ok (hR : rx_R D cl A s xa nL H0 z r ad H locs ls) (hz : rx_h_dup2 z = some zs)
    (row2 : ∀ (v : Value) (rest : List Value), v.category = 2 → W p l e R s m args below meth c H locs z.2.2.2.1 z.2.2.2.2.1 Q (F0 m (rx_zpc z + 1) ls (v :: v :: rest)) → W p l e R s m args below meth c H locs z.2.2.2.1 z.2.2.2.2.1 Q (F0 m (rx_zpc z) ls (v :: rest)))
    (row : ∀ (v w : Value) (rest : List Value), v.category = 1 → w.category = 1 → W p l e R s m args below meth c H locs z.2.2.2.1 z.2.2.2.2.1 Q (F0 m (rx_zpc z + 1) ls (v :: w :: v :: w :: rest)) → W p l e R s m args below meth c H locs z.2.2.2.1 z.2.2.2.2.1 Q (F0 m (rx_zpc z) ls (v :: w :: rest)))
    (K : ∀ z_p ∈ zs, rx_G p l e R s m args below meth c Q D cl A xa nL H0 z.1.length z.2.2.1.length r ad z_p) : W p l e R s m args below meth c H locs z.2.2.2.1 z.2.2.2.2.1 Q (F0 m (rx_zpc z) ls ((rx_zst z).map (rx_iv r ad xa))) := by
  unfold rx_h_dup2 at hz
  split at hz
  · rename_i v t hv
    have hst := rx_stsc hR
    rw [rx_pv_ok hv] at hst ⊢
    split at hz
    · rename_i hk
      cases hz
      refine row2 _ _ (rx_cat2 hk) (rx_at (K _ List.mem_cons_self) rx_same.rf rx_sameA.rf (rx_R_nx hR fun x hx => ?_) rfl rfl rfl rfl)
      rcases List.mem_cons.mp hx with h | h
      · subst h; exact hst _ List.mem_cons_self
      · exact hst x h
    · rename_i hk
      split at hz
      · rename_i w t2 hw
        have e2 := rx_pv_ok hw
        subst e2
        split at hz
        · cases hz
        · rename_i hk2
          cases hz
          refine row _ _ _ (rx_cat (Bool.eq_false_iff.mpr hk)) (rx_cat (Bool.eq_false_iff.mpr hk2)) (rx_at (K _ List.mem_cons_self) rx_same.rf rx_sameA.rf (rx_R_nx hR fun x hx => ?_) rfl rfl rfl rfl)
          rcases List.mem_cons.mp hx with h | h
          · subst h; exact hst _ List.mem_cons_self
          · rcases List.mem_cons.mp h with h | h
            · subst h; exact hst _ (List.mem_cons_of_mem _ List.mem_cons_self)
            · exact hst x h
      · cases hz
  · cases hz
theorem rx_h_iinc_ok {i : Nat} {n : Int} (hR : rx_R D cl A s xa nL H0 z r ad H locs ls) (hz : rx_h_iinc nL i n z = some zs)
    (row : ∀ (x v : Int32) (k : Nat), i < nL → (rx_lvs r ad xa (rx_zlv z))[k]? = some (i, Value.int x) → x + Int32.ofInt n = v → (∀ ls_p : Array Slot, lv_has ls_p nL ((i, Value.int v) :: (rx_lvs r ad xa (rx_zlv z)).filter (fun q => !(q.1 == i) && !(q.1 + 1 == i && q.2.category == 2))) → W p l e R s m args below meth c H locs z.2.2.2.1 z.2.2.2.2.1 Q (F0 m (rx_zpc z + 3) ls_p ((rx_zst z).map (rx_iv r ad xa)))) → W p l e R s m args below meth c H locs z.2.2.2.1 z.2.2.2.2.1 Q (F0 m (rx_zpc z) ls ((rx_zst z).map (rx_iv r ad xa))))
    (K : ∀ z_p ∈ zs, rx_G p l e R s m args below meth c Q D cl A xa nL H0 z.1.length z.2.2.1.length r ad z_p) : W p l e R s m args below meth c H locs z.2.2.2.1 z.2.2.2.2.1 Q (F0 m (rx_zpc z) ls ((rx_zst z).map (rx_iv r ad xa))) := by
  unfold rx_h_iinc at hz
  split at hz
  · rename_i e0 he
    split at hz
    · rename_i I2 e2 hb
      split at hz
      · rename_i hi
        cases hz
        obtain ⟨r_p, q1, q2, q3, q4, q5⟩ := rx_bin_ok hR.1 hb
        have hmem : (i, rx_iv r ad xa (.inr (0, e0))) ∈ rx_lvs r ad xa (rx_zlv z) := List.mem_map.mpr ⟨(i, .inr (0, e0)), rx_lk_mem he, rfl⟩
        obtain ⟨k, hk⟩ := List.getElem?_of_mem hmem
        have hv : Int32.ofInt (rx_ev r e0) + Int32.ofInt n = Int32.ofInt (rx_ev r_p e2) := by
          rw [q3, rx_ev0 hR.1]
          rfl
        refine row _ _ k hi hk hv fun ls_p hl => ?_
        have hl2 : lv_has ls_p nL (rx_lvs r_p ad xa ((i, .inr (0, e2)) :: rx_del (rx_zlv z) i)) := by
          refine rx_lv_st ?_
          rw [rx_lvs_ext (rx_lvsc hR) q1 rx_sameA.rf]
          exact hl
        refine rx_at (K _ List.mem_cons_self) q1 rx_sameA.rf ⟨q2, rx_facts_ext hR.2.1 hR.2.2.1 q1, hR.2.2.1.mono q4, hR.2.2.2.1.ext (M := 0) q4 q1 rx_sameA.rf, hl2, fun q hq => ?_, fun v hv => rx_sc.mono (rx_stsc hR v hv) q4 trivial⟩ rfl rfl rfl ?_
        · rcases List.mem_cons.mp hq with h | h
          · subst h; exact q5
          · exact rx_sc.mono (rx_lvsc hR q (rx_del_mem h)) q4 trivial
        · show (rx_zst z).map (rx_iv r_p ad xa) = (rx_zst z).map (rx_iv r ad xa)
          exact rx_st_ext (rx_stsc hR) q1 rx_sameA.rf
      · cases hz
    · cases hz
  · cases hz
end RXQ
end
section
noncomputable def rx_jp (I : rx_I) (F : rx_F) (z : rx_Z) (pc : Nat) (st : List rx_V) : rx_Z := match z with
  | (_, _, ht0, c0, s0, _, lv0, _) => (I, F, ht0, c0, s0, pc, lv0, st)
noncomputable def rx_way (z : rx_Z) (f : Nat × rx_E × rx_E) (pc : Nat) (st : List rx_V) : List rx_Z := match rx_bd z.1 f.2.1, rx_bd z.1 f.2.2 with
  | some (al, ah), some (bl, bh) => match rx_asm z.1 z.2.1 f.1 f.2.1 f.2.2 al ah bl bh with
    | some (I, F) => [rx_jp I F z pc st]
    | none => []
  | _, _ => [rx_jp z.1 z.2.1 z pc st]
noncomputable def rx_okI (I : rx_I) (e : rx_E) : Bool := (rx_bi I e).isSome
noncomputable def rx_okL (I : rx_I) (e : rx_E) : Bool := (rx_bl I e).isSome
noncomputable def rx_fork (z : rx_Z) (cnd : Jvm.ClassFile.Cond) (a b : rx_E) (tgt nx : Nat) (st : List rx_V) : List rx_Z :=
  rx_way z (rx_cnd cnd (rx_nm z.1 a) (rx_nm z.1 b)).1 tgt st ++ rx_way z (rx_cnd cnd (rx_nm z.1 a) (rx_nm z.1 b)).2 nx st
noncomputable def rx_off (pc : Nat) (off : Int) : Option Nat := if 0 ≤ (pc : Int) + off then some ((pc : Int) + off).toNat else none
noncomputable def rx_h_if (cnd : Jvm.ClassFile.Cond) (off : Int) (z : rx_Z) : Option (List rx_Z) := match rx_pi (rx_zst z), rx_off (rx_zpc z) off with
  | some (a, t), some tgt => if rx_okI z.1 a then some (rx_fork z cnd a (0, 0) tgt (rx_zpc z + 3) t) else none
  | _, _ => none
noncomputable def rx_h_icmp (cnd : Jvm.ClassFile.Cond) (off : Int) (z : rx_Z) : Option (List rx_Z) := match rx_pi (rx_zst z), rx_off (rx_zpc z) off with
  | some (b, t), some tgt => match rx_pi t with
    | some (a, t) => if rx_okI z.1 a && rx_okI z.1 b then some (rx_fork z cnd a b tgt (rx_zpc z + 3) t) else none
    | none => none
  | _, _ => none
noncomputable def rx_h_lcmp (nx : Except DecodeError (Instr × Nat)) (z : rx_Z) : Option (List rx_Z) := match rx_pl (rx_zst z) with
  | some (b, t) => match rx_pl t with
    | some (a, t) => match nx with
      | .ok (.ifCond cnd off, 3) => match rx_off (rx_zpc z + 1) off with
        | some tgt => if rx_okL z.1 a && rx_okL z.1 b then some (rx_fork z cnd a b tgt (rx_zpc z + 4) t) else none
        | none => none
      | _ => none
    | none => none
  | none => none
noncomputable def rx_h_goto (off : Int) (z : rx_Z) : Option (List rx_Z) := match rx_off (rx_zpc z) off with
  | some tgt => some [rx_jp z.1 z.2.1 z tgt (rx_zst z)]
  | none => none
noncomputable def rx_holds (c : Jvm.ClassFile.Cond) (x y : Int) : Prop := match c with
  | .eq => x = y
  | .ne => ¬ x = y
  | .lt => x < y
  | .ge => y ≤ x
  | .gt => y < x
  | .le => x ≤ y
theorem rx_cnd_t {c : Jvm.ClassFile.Cond} {r : Nat → Int} {a b : rx_E} (h : rx_holds c (rx_ev r a) (rx_ev r b)) : rx_fact r (rx_cnd c a b).1 ∧ (rx_cnd c a b).1.1 ≤ 3 := by
  cases c
  · exact ⟨h, Nat.le_of_ble_eq_true rfl⟩
  · exact ⟨h, Nat.le_of_ble_eq_true rfl⟩
  · exact ⟨h, Nat.le_of_ble_eq_true rfl⟩
  · exact ⟨h, Nat.le_of_ble_eq_true rfl⟩
  · exact ⟨h, Nat.le_of_ble_eq_true rfl⟩
  · exact ⟨h, Nat.le_of_ble_eq_true rfl⟩
theorem rx_cnd_f {c : Jvm.ClassFile.Cond} {r : Nat → Int} {a b : rx_E} (h : ¬ rx_holds c (rx_ev r a) (rx_ev r b)) : rx_fact r (rx_cnd c a b).2 ∧ (rx_cnd c a b).2.1 ≤ 3 := by
  cases c
  · exact ⟨h, Nat.le_of_ble_eq_true rfl⟩
  · exact ⟨Classical.not_not.mp h, Nat.le_of_ble_eq_true rfl⟩
  · exact ⟨Int.not_lt.mp h, Nat.le_of_ble_eq_true rfl⟩
  · exact ⟨Int.not_le.mp h, Nat.le_of_ble_eq_true rfl⟩
  · exact ⟨Int.not_lt.mp h, Nat.le_of_ble_eq_true rfl⟩
  · exact ⟨Int.not_le.mp h, Nat.le_of_ble_eq_true rfl⟩
theorem rx_cnd_in {c : Jvm.ClassFile.Cond} {a b : rx_E} {N : Nat} (ha : a.1 < N) (hb : b.1 < N) : ((rx_cnd c a b).1.2.1.1 < N ∧ (rx_cnd c a b).1.2.2.1 < N) ∧ ((rx_cnd c a b).2.2.1.1 < N ∧ (rx_cnd c a b).2.2.2.1 < N) := by
  cases c <;> exact ⟨⟨by first | exact ha | exact hb, by first | exact ha | exact hb⟩, ⟨by first | exact ha | exact hb, by first | exact ha | exact hb⟩⟩
section RXB
variable {p : Program} {l : Launch} {e : Env} {R : Room} {s : State} {m : MethodId} {args : Array Value} {below : List Frame} {meth : Method} {c : Code} {Q : State → Prop}
variable {D : bx_D} {cl : List vw_C} {A : Nat → Prop} {xa : Nat → Nat} {nL : Nat} {H0 H : Heap} {locs : List Loc} {ls : Array Slot} {r : Nat → Int} {ad : Nat → Nat}
variable {cc : ByteArray} {z : rx_Z} {zs : List rx_Z}
theorem rx_R_jp {I : rx_I} {F : rx_F} {pc : Nat} {st : List rx_V} (hR : rx_R D cl A s xa nL H0 z r ad H locs ls) (hI : I.length = z.1.length) (hsat : rx_sat I r) (hF : rx_facts F r) (hfs : rx_fsc z.1.length F) (hs : ∀ v ∈ st, rx_sc z.1.length z.2.2.1.length v) : rx_R D cl A s xa nL H0 (rx_jp I F z pc st) r ad H locs ls := by
  obtain ⟨h1, h2, h3, h4, h5, h6, h7⟩ := hR
  refine ⟨hsat, hF, ?_, ?_, h5, ?_, ?_⟩
  · show rx_fsc I.length F
    rw [hI]; exact hfs
  · show rx_W D cl A s xa I.length z.2.2.1 r ad H0 H locs
    rw [hI]; exact h4
  · show ∀ q ∈ rx_zlv z, rx_sc I.length z.2.2.1.length q.2
    rw [hI]; exact h6
  · show ∀ v ∈ st, rx_sc I.length z.2.2.1.length v
    rw [hI]; exact hs
theorem rx_way_ok {f : Nat × rx_E × rx_E} {pc : Nat} {st : List rx_V} (hR : rx_R D cl A s xa nL H0 z r ad H locs ls) (hf : rx_fact r f) (hc : f.1 ≤ 3) (h1 : f.2.1.1 < z.1.length) (h2 : f.2.2.1 < z.1.length) (hs : ∀ v ∈ st, rx_sc z.1.length z.2.2.1.length v)
    (K : ∀ z_p ∈ rx_way z f pc st, rx_G p l e R s m args below meth c Q D cl A xa nL H0 z.1.length z.2.2.1.length r ad z_p) : W p l e R s m args below meth c H locs z.2.2.2.1 z.2.2.2.2.1 Q (F0 m pc ls (st.map (rx_iv r ad xa))) := by
  obtain ⟨k, x, y⟩ := f
  unfold rx_way at K
  dsimp only at K hc h1 h2
  split at K
  · rename_i al ah bl bh e1 e2
    have q1 := rx_bd_ok hR.1 e1
    have q2 := rx_bd_ok hR.1 e2
    obtain ⟨I2, F2, g1, g2, g3, g4, g5⟩ := rx_asm_ok (I := z.1) (F := z.2.1) hc hR.1 hR.2.1 hR.2.2.1 h1 h2 ⟨q1.1, q1.2.1⟩ ⟨q2.1, q2.2.1⟩ hf
    rw [g1] at K
    exact rx_at (K _ List.mem_cons_self) rx_same.rf rx_sameA.rf (rx_R_jp hR g5 g2 g3 g4 hs) rfl rfl rfl rfl
  · exact rx_at (K _ List.mem_cons_self) rx_same.rf rx_sameA.rf (rx_R_jp hR rfl hR.1 hR.2.1 hR.2.2.1 hs) rfl rfl rfl rfl
theorem rx_fork_ok {cnd : Jvm.ClassFile.Cond} {a b : rx_E} {tgt nx : Nat} {st : List rx_V} (hR : rx_R D cl A s xa nL H0 z r ad H locs ls) (ha : a.1 < z.1.length) (hb : b.1 < z.1.length) (hs : ∀ v ∈ st, rx_sc z.1.length z.2.2.1.length v)
    (K : ∀ z_p ∈ rx_fork z cnd a b tgt nx st, rx_G p l e R s m args below meth c Q D cl A xa nL H0 z.1.length z.2.2.1.length r ad z_p) :
    (rx_holds cnd (rx_ev r a) (rx_ev r b) → W p l e R s m args below meth c H locs z.2.2.2.1 z.2.2.2.2.1 Q (F0 m tgt ls (st.map (rx_iv r ad xa)))) ∧ (¬ rx_holds cnd (rx_ev r a) (rx_ev r b) → W p l e R s m args below meth c H locs z.2.2.2.1 z.2.2.2.2.1 Q (F0 m nx ls (st.map (rx_iv r ad xa)))) := by
  obtain ⟨a1, a2⟩ := rx_nm_ok (e := a) hR.1
  obtain ⟨b1, b2⟩ := rx_nm_ok (e := b) hR.1
  obtain ⟨⟨i1, i2⟩, i3, i4⟩ := rx_cnd_in (c := cnd) (a2 ha) (b2 hb)
  rw [← a1, ← b1]
  refine ⟨fun h => ?_, fun h => ?_⟩
  · obtain ⟨f1, f2⟩ := rx_cnd_t h
    exact rx_way_ok hR f1 f2 i1 i2 hs fun z_p hz => K z_p (List.mem_append_left _ hz)
  · obtain ⟨f1, f2⟩ := rx_cnd_f h
    exact rx_way_ok hR f1 f2 i3 i4 hs fun z_p hz => K z_p (List.mem_append_right _ hz)
theorem rx_off_ok {pc tgt : Nat} {off : Int} (h : rx_off pc off = some tgt) : (pc : Int) + off = (tgt : Int) := by
  unfold rx_off at h
  split at h
  · cases h
    omega
  · cases h
theorem rx_okI_ok {I : rx_I} {a : rx_E} (h : rx_sat I r) (ho : rx_okI I a = true) : (Int32.ofInt (rx_ev r a)).toInt = rx_ev r a ∧ a.1 < I.length := by
  unfold rx_okI at ho
  obtain ⟨b, hb⟩ := Option.isSome_iff_exists.mp ho
  obtain ⟨lo, hi⟩ := b
  exact (rx_bi_ok h hb).2.2
theorem rx_okL_ok {I : rx_I} {a : rx_E} (h : rx_sat I r) (ho : rx_okL I a = true) : (Int64.ofInt (rx_ev r a)).toInt = rx_ev r a ∧ a.1 < I.length := by
  unfold rx_okL at ho
  obtain ⟨b, hb⟩ := Option.isSome_iff_exists.mp ho
  obtain ⟨lo, hi⟩ := b
  exact (rx_bl_ok h hb).2.2
theorem rx_lv_if (hexec : p.tables.exec = Jvm.exec) (hb : c.code = cc) {k n pc : Nat} {rest : List Value} {x : Int32} {cnd : Jvm.ClassFile.Cond} {off : Int} {tgt : Nat} (hdg : decode cc pc = .ok (.ifCond cnd off, 3)) (ht : (pc : Int) + off = (tgt : Int))
    (kt : rx_holds cnd x.toInt 0 → W p l e R s m args below meth c H locs k n Q (F0 m tgt ls rest)) (kf : ¬ rx_holds cnd x.toInt 0 → W p l e R s m args below meth c H locs k n Q (F0 m (pc + 3) ls rest)) : W p l e R s m args below meth c H locs k n Q (F0 m pc ls (.int x :: rest)) := by
  have z0 : (0 : Int32).toInt = 0 := Int32.toInt_zero
  have ex : (x = 0) ↔ (x.toInt = 0) := by rw [← z0]; exact Int32.toInt_inj.symm
  have el : (x < 0) ↔ (x.toInt < 0) := by rw [Int32.lt_iff_toInt_lt, z0]
  have eg : (0 < x) ↔ (0 < x.toInt) := by rw [Int32.lt_iff_toInt_lt, z0]
  have ege : (0 ≤ x) ↔ (0 ≤ x.toInt) := by rw [Int32.le_iff_toInt_le, z0]
  have ele : (x ≤ 0) ↔ (x.toInt ≤ 0) := by rw [Int32.le_iff_toInt_le, z0]
  cases cnd
  · exact lv_if_eq hexec hb hdg ht (fun h => kt (ex.mp h)) (fun h => kf (fun q => h (ex.mpr q)))
  · exact lv_if_ne hexec hb hdg ht (fun h => kt (fun q => h (ex.mpr q))) (fun h => kf (fun q => q (ex.mp h)))
  · exact lv_if_lt hexec hb hdg ht (fun h => kt (el.mp h)) (fun h => kf (fun q => h (el.mpr q)))
  · exact lv_if_ge hexec hb hdg ht (fun h => kt (ege.mp h)) (fun h => kf (fun q => h (ege.mpr q)))
  · exact lv_if_gt hexec hb hdg ht (fun h => kt (eg.mp h)) (fun h => kf (fun q => h (eg.mpr q)))
  · exact lv_if_le hexec hb hdg ht (fun h => kt (ele.mp h)) (fun h => kf (fun q => h (ele.mpr q)))
theorem rx_lv_icmp (hexec : p.tables.exec = Jvm.exec) (hb : c.code = cc) {k n pc : Nat} {rest : List Value} {x y : Int32} {cnd : Jvm.ClassFile.Cond} {off : Int} {tgt : Nat} (hdg : decode cc pc = .ok (.if_icmp cnd off, 3)) (ht : (pc : Int) + off = (tgt : Int))
    (kt : rx_holds cnd x.toInt y.toInt → W p l e R s m args below meth c H locs k n Q (F0 m tgt ls rest)) (kf : ¬ rx_holds cnd x.toInt y.toInt → W p l e R s m args below meth c H locs k n Q (F0 m (pc + 3) ls rest)) : W p l e R s m args below meth c H locs k n Q (F0 m pc ls (.int y :: .int x :: rest)) := by
  have ex : (x = y) ↔ (x.toInt = y.toInt) := Int32.toInt_inj.symm
  have el : (x < y) ↔ (x.toInt < y.toInt) := Int32.lt_iff_toInt_lt
  have eg : (y < x) ↔ (y.toInt < x.toInt) := Int32.lt_iff_toInt_lt
  have ege : (y ≤ x) ↔ (y.toInt ≤ x.toInt) := Int32.le_iff_toInt_le
  have ele : (x ≤ y) ↔ (x.toInt ≤ y.toInt) := Int32.le_iff_toInt_le
  cases cnd
  · exact lv_icmp_eq hexec hb hdg ht (fun h => kt (ex.mp h)) (fun h => kf (fun q => h (ex.mpr q)))
  · exact lv_icmp_ne hexec hb hdg ht (fun h => kt (fun q => h (ex.mpr q))) (fun h => kf (fun q => q (ex.mp h)))
  · exact lv_icmp_lt hexec hb hdg ht (fun h => kt (el.mp h)) (fun h => kf (fun q => h (el.mpr q)))
  · exact lv_icmp_ge hexec hb hdg ht (fun h => kt (ege.mp h)) (fun h => kf (fun q => h (ege.mpr q)))
  · exact lv_icmp_gt hexec hb hdg ht (fun h => kt (eg.mp h)) (fun h => kf (fun q => h (eg.mpr q)))
  · exact lv_icmp_le hexec hb hdg ht (fun h => kt (ele.mp h)) (fun h => kf (fun q => h (ele.mpr q)))
theorem rx_h_if_ok {cnd : Jvm.ClassFile.Cond} {off : Int} (hexec : p.tables.exec = Jvm.exec) (hb : c.code = cc) (hdg : decode cc (rx_zpc z) = .ok (.ifCond cnd off, 3)) (hR : rx_R D cl A s xa nL H0 z r ad H locs ls) (hz : rx_h_if cnd off z = some zs)
    (K : ∀ z_p ∈ zs, rx_G p l e R s m args below meth c Q D cl A xa nL H0 z.1.length z.2.2.1.length r ad z_p) : W p l e R s m args below meth c H locs z.2.2.2.1 z.2.2.2.2.1 Q (F0 m (rx_zpc z) ls ((rx_zst z).map (rx_iv r ad xa))) := by
  unfold rx_h_if at hz
  split at hz
  · rename_i a t tgt ha ht
    split at hz
    · rename_i ho
      cases hz
      obtain ⟨o1, o2⟩ := rx_okI_ok hR.1 ho
      have hst := rx_stsc hR
      rw [rx_pi_ok ha] at hst ⊢
      obtain ⟨k1, k2⟩ := rx_fork_ok hR o2 (rx_pos hR.1) (fun v hv => hst v (List.mem_cons_of_mem _ hv)) K
      rw [rx_ev0 hR.1] at k1 k2
      exact rx_lv_if hexec hb hdg (rx_off_ok ht) (fun h => k1 (by rw [o1] at h; exact h)) (fun h => k2 (by rw [o1] at h; exact h))
    · cases hz
  · cases hz
theorem rx_h_icmp_ok {cnd : Jvm.ClassFile.Cond} {off : Int} (hexec : p.tables.exec = Jvm.exec) (hb : c.code = cc) (hdg : decode cc (rx_zpc z) = .ok (.if_icmp cnd off, 3)) (hR : rx_R D cl A s xa nL H0 z r ad H locs ls) (hz : rx_h_icmp cnd off z = some zs)
    (K : ∀ z_p ∈ zs, rx_G p l e R s m args below meth c Q D cl A xa nL H0 z.1.length z.2.2.1.length r ad z_p) : W p l e R s m args below meth c H locs z.2.2.2.1 z.2.2.2.2.1 Q (F0 m (rx_zpc z) ls ((rx_zst z).map (rx_iv r ad xa))) := by
  unfold rx_h_icmp at hz
  split at hz
  · rename_i b t tgt hbb ht
    split at hz
    · rename_i a t2 ha
      split at hz
      · rename_i ho
        cases hz
        rw [Bool.and_eq_true] at ho
        obtain ⟨o1, o2⟩ := rx_okI_ok hR.1 ho.1
        obtain ⟨o3, o4⟩ := rx_okI_ok hR.1 ho.2
        have hst := rx_stsc hR
        have e2 := rx_pi_ok ha
        subst e2
        rw [rx_pi_ok hbb] at hst ⊢
        obtain ⟨k1, k2⟩ := rx_fork_ok hR o2 o4 (fun v hv => hst v (List.mem_cons_of_mem _ (List.mem_cons_of_mem _ hv))) K
        exact rx_lv_icmp hexec hb hdg (rx_off_ok ht) (fun h => k1 (by rw [o1, o3] at h; exact h)) (fun h => k2 (by rw [o1, o3] at h; exact h))
      · cases hz
    · cases hz
  · cases hz
theorem rx_lcmp_holds {cnd : Jvm.ClassFile.Cond} (x y : Int64) : rx_holds cnd (lg_cmp x y).toInt 0 ↔ rx_holds cnd x.toInt y.toInt := by
  have z0 : (0 : Int32).toInt = 0 := Int32.toInt_zero
  have ex : ((lg_cmp x y).toInt = 0) ↔ (x.toInt = y.toInt) := by rw [← z0, Int32.toInt_inj, lg_cmp_eq, Int64.toInt_inj]
  cases cnd
  · exact ex
  · exact not_congr ex
  · show (lg_cmp x y).toInt < 0 ↔ x.toInt < y.toInt
    rw [← z0, ← Int32.lt_iff_toInt_lt, lg_cmp_lt, Int64.lt_iff_toInt_lt]
  · show 0 ≤ (lg_cmp x y).toInt ↔ y.toInt ≤ x.toInt
    rw [← z0, ← Int32.le_iff_toInt_le, lg_cmp_ge, Int64.le_iff_toInt_le]
  · show 0 < (lg_cmp x y).toInt ↔ y.toInt < x.toInt
    rw [← z0, ← Int32.lt_iff_toInt_lt, lg_cmp_gt, Int64.lt_iff_toInt_lt]
  · show (lg_cmp x y).toInt ≤ 0 ↔ x.toInt ≤ y.toInt
    rw [← z0, ← Int32.le_iff_toInt_le, lg_cmp_le, Int64.le_iff_toInt_le]
theorem rx_h_lcmp_ok (hexec : p.tables.exec = Jvm.exec) (hb : c.code = cc) (hdg : decode cc (rx_zpc z) = .ok (.lcmp, 1)) (hR : rx_R D cl A s xa nL H0 z r ad H locs ls) (hz : rx_h_lcmp (decode cc (rx_zpc z + 1)) z = some zs)
    (K : ∀ z_p ∈ zs, rx_G p l e R s m args below meth c Q D cl A xa nL H0 z.1.length z.2.2.1.length r ad z_p) : W p l e R s m args below meth c H locs z.2.2.2.1 z.2.2.2.2.1 Q (F0 m (rx_zpc z) ls ((rx_zst z).map (rx_iv r ad xa))) := by
  unfold rx_h_lcmp at hz
  split at hz
  · rename_i b t hbb
    split at hz
    · rename_i a t2 ha
      split at hz
      · rename_i cnd off hd2
        split at hz
        · rename_i tgt ht
          split at hz
          · rename_i ho
            cases hz
            rw [Bool.and_eq_true] at ho
            obtain ⟨o1, o2⟩ := rx_okL_ok hR.1 ho.1
            obtain ⟨o3, o4⟩ := rx_okL_ok hR.1 ho.2
            have hst := rx_stsc hR
            have e2 := rx_pl_ok ha
            subst e2
            rw [rx_pl_ok hbb] at hst ⊢
            obtain ⟨k1, k2⟩ := rx_fork_ok hR o2 o4 (fun v hv => hst v (List.mem_cons_of_mem _ (List.mem_cons_of_mem _ hv))) K
            refine W.lcmp hexec hb hdg ?_
            refine rx_lv_if hexec hb hd2 (rx_off_ok ht) (fun h => k1 ?_) (fun h => k2 ?_)
            · have h2 := (rx_lcmp_holds _ _).mp h
              rw [o1, o3] at h2
              exact h2
            · intro q
              refine h ((rx_lcmp_holds _ _).mpr ?_)
              rw [o1, o3]
              exact q
          · cases hz
        · cases hz
      · cases hz
    · cases hz
  · cases hz
theorem rx_h_goto_ok {off : Int} (hexec : p.tables.exec = Jvm.exec) (hb : c.code = cc) (hdg : decode cc (rx_zpc z) = .ok (.goto off, 3)) (hR : rx_R D cl A s xa nL H0 z r ad H locs ls) (hz : rx_h_goto off z = some zs)
    (K : ∀ z_p ∈ zs, rx_G p l e R s m args below meth c Q D cl A xa nL H0 z.1.length z.2.2.1.length r ad z_p) : W p l e R s m args below meth c H locs z.2.2.2.1 z.2.2.2.2.1 Q (F0 m (rx_zpc z) ls ((rx_zst z).map (rx_iv r ad xa))) := by
  unfold rx_h_goto at hz
  split at hz
  · rename_i tgt ht
    cases hz
    exact lv_goto hexec hb hdg (rx_off_ok ht) (rx_at (K _ List.mem_cons_self) rx_same.rf rx_sameA.rf (rx_R_jp hR rfl hR.1 hR.2.1 hR.2.2.1 (rx_stsc hR)) rfl rfl rfl rfl)
  · cases hz
end RXB
end
section
noncomputable abbrev rx_Q : Type := Nat × Nat × Nat × Bool × Bool
noncomputable def rx_tyc (ty : FieldType) : Nat := match ty with
  | .int => 0
  | .boolean => 1
  | .long => 2
  | .object _ => 3
  | .array _ => 3
  | _ => 9
noncomputable def rx_Fok (s : State) (args : Array Value) (Ts : List Jvm.Cond) (own : String) (cl : List vw_C) (idx : Nat) (q : rx_Q) : Prop :=
  ∃ (C : String) (T : u_T) (N : Nat) (ty : Nat → FieldType), cl[q.1]? = some (C, T, N) ∧ q.2.1 < N ∧ (∀ w ∈ u_ws C T N, w ∈ Ts) ∧ (∀ k, k < N → parseFieldDescriptor (T k).2.2.1 = some (ty k)) ∧ (∀ a, a < N → ∀ b, b < N → a ≠ b → (T a).2.1 ≠ (T b).2.1) ∧
    rx_tyc (ty q.2.1) = q.2.2.1 ∧ (T q.2.1).2.2.2 = q.2.2.2.1 ∧ (q.2.2.2.1 = true → q.2.2.2.2 = false → (T q.2.1).1 = own) ∧
    ((q.2.2.2.2 = false ∧ (Jvm.Cond.fieldLink own idx (T q.2.1).1 (T q.2.1).2.1 (T q.2.1).2.2.1).before args s = true) ∨ (q.2.2.2.2 = true ∧ ∃ host : String, (Jvm.Cond.fieldLinkNest own idx (T q.2.1).1 (T q.2.1).2.1 (T q.2.1).2.2.1 host).before args s = true))
noncomputable abbrev bx_V : Type := (Option Nat → Int → Option bx_K) × (Option Nat → Int → Int → Int → Int → Option bx_T) × (Option Nat → Int → Int → Int → Int → Option bx_T)
noncomputable def bx_in (L : bx_L) (d : Option Nat) (q : Int) : Prop := match d with
  | none => q = 0
  | some k => L.2.2.2 k q = true
noncomputable def bx_okR (L : bx_L) (q : Int) (t : bx_T) (v : Int) : Prop := match t.1 with
  | 0 => t.2.1 ≤ v ∧ v ≤ t.2.2
  | 1 => v = q + t.2.1
  | _ => L.2.2.2 t.2.1.toNat v = true
noncomputable def bx_VOK (L : bx_L) (V : bx_V) : Prop :=
  (∀ (d : Option Nat) (off : Int) (k : bx_K), V.1 d off = some k → ∀ q : Int, bx_in L d q → 0 ≤ q + off ∧ (q + off).toNat < L.2.1 ∧ L.1 (q + off).toNat = k) ∧
  (∀ (d : Option Nat) (off lo hi m : Int) (t : bx_T), V.2.1 d off lo hi m = some t → ∀ q : Int, bx_in L d q → ∀ j v : Int, lo ≤ j → j ≤ hi → (j - lo) % m = 0 → bx_okT L (L.2.2.1 (q + off).toNat j) v → bx_okR L q t v) ∧
  (∀ (d : Option Nat) (off lo hi m : Int) (t : bx_T), V.2.2 d off lo hi m = some t → ∀ q : Int, bx_in L d q → ∀ j v : Int, lo ≤ j → j ≤ hi → (j - lo) % m = 0 → bx_okR L q t v → bx_okT L (L.2.2.1 (q + off).toNat j) v) ∧
  (∀ (d : Nat) (q : Int), L.2.2.2 d q = true → 0 ≤ q ∧ q ≤ (L.2.1 : Int) + 1000) ∧ ∀ d : Nat, 2000000 ≤ d → L.2.2.2 d 0 = true
noncomputable def bx_fd : List rx_C → Nat → Option Nat
  | [], _ => none
  | q :: l, n => if q.1.1.1 = n ∧ q.1.1.2 = 0 ∧ 1000000 ≤ q.1.2 then some (q.1.2 - 1000000) else bx_fd l n
noncomputable def bx_dm (ht : List rx_C) (n : Nat) : Option (Option Nat) := if n = 0 then some none else match bx_fd ht n with
  | some d => some (some d)
  | none => none
noncomputable def bx_ck : List rx_C → rx_E → Nat → Option rx_V
  | [], _, _ => none
  | q :: l, e, k => if q.1.1.1 = e.1 ∧ q.1.1.2 = e.2 ∧ q.1.2 = k then some q.2 else bx_ck l e k
noncomputable def bx_pp (st : List rx_V) : Option (rx_E × List rx_V) := match st with
  | .inr (3, e) :: t => some (e, t)
  | _ => none
theorem bx_pp_ok {st t : List rx_V} {e : rx_E} (h : bx_pp st = some (e, t)) : st = .inr (3, e) :: t := by
  unfold bx_pp at h
  split at h
  · cases h; rfl
  · cases h
theorem bx_notE {q : rx_C} (h : q.1.2 < 3000000) : ¬ bx_isE q = true := fun h2 => absurd (Nat.le_of_ble_eq_true h2) (Nat.not_le_of_lt h)
theorem bx_isE_le {q : rx_C} (h : bx_isE q = true) : 3000000 ≤ q.1.2 := Nat.le_of_ble_eq_true h
noncomputable def bx_str (F : rx_F) (ix : rx_E) (lo : Int) : Int × Int := match F.find? (fun f => Nat.ble 5 f.1 && (Nat.ble f.1 999999 && (f.2.1.1 == ix.1 && !(ix.1 == 0)))) with
  | some (k, (_, o), _) => (lo + (ix.2 - o - lo) % ((k : Int) - 4), (k : Int) - 4)
  | none => (lo, 1)
theorem bx_str0 {x y c lo m : Int} (hm : 0 < m) (h : x = m * y + c) (hlo : lo ≤ x) : lo + (c - lo) % m ≤ x ∧ (x - (lo + (c - lo) % m)) % m = 0 := by
  have e1 : (x - lo) % m = (c - lo) % m := by
    rw [h, show m * y + c - lo = c - lo + m * y by omega, Int.add_mul_emod_self_left]
  have e2 := Int.emod_add_mul_ediv (x - lo) m
  have e3 : 0 ≤ (x - lo) / m := Int.ediv_nonneg (by omega) (by omega)
  have e4 : 0 ≤ m * ((x - lo) / m) := Int.mul_nonneg (by omega) e3
  rw [e1] at e2
  refine ⟨by omega, ?_⟩
  rw [show x - (lo + (c - lo) % m) = m * ((x - lo) / m) by omega, Int.mul_emod_right]
theorem bx_str_ok {F : rx_F} {ix : rx_E} {lo : Int} {r : Nat → Int} (hF : rx_facts F r) (h : lo ≤ rx_ev r ix) : (bx_str F ix lo).1 ≤ rx_ev r ix ∧ (rx_ev r ix - (bx_str F ix lo).1) % (bx_str F ix lo).2 = 0 := by
  unfold bx_str
  split
  · rename_i k n o b hf
    have h1 := List.find?_some hf
    have h2 := hF _ (List.mem_of_find?_eq_some hf)
    simp only [Bool.and_eq_true, beq_iff_eq] at h1
    obtain ⟨k1, k2, k3, -⟩ := h1
    have k1 := Nat.le_of_ble_eq_true k1
    have k2 := Nat.le_of_ble_eq_true k2
    obtain ⟨j, rfl⟩ : ∃ j, k = j + 4 := ⟨k - 4, by omega⟩
    have h2 : if j < 999996 then rx_ev r (n, o) = (j : Int) * rx_ev r b else rx_ev r (n, o) = rx_ev r b + rx_ev r (bx_de ((j + 4) / 1000000)) := h2
    rw [if_pos (by omega)] at h2
    have e1 : (((j + 4 : Nat) : Int) - 4) = (j : Int) := by omega
    rw [e1]
    refine bx_str0 (y := rx_ev r b) (by omega) ?_ h
    rw [← h2, k3]
    unfold rx_ev
    dsimp only
    omega
  · exact ⟨h, Int.emod_one _⟩
noncomputable def bx_nv (tc n np : Nat) (t : bx_T) (I : rx_I) (ht : List rx_C) : Option (rx_I × List rx_C × rx_V) := match t with
  | (0, lo, hi) => if tc ≤ 1 then some (I ++ [(lo, hi)], ht, .inr (0, (I.length, 0))) else if tc = 2 then some (I ++ [(lo, hi)], ht, .inr (1, (I.length, 0))) else none
  | (1, o, _) => if 3 ≤ tc then some (I, ht, .inr (3, (n, o))) else none
  | (2, d, _) => if 3 ≤ tc ∧ d.toNat < 1000000 then some (I ++ [(0, (np : Int) + 1000)], (((I.length, 0), 1000000 + d.toNat), .inl none) :: ht, .inr (3, (I.length, 0))) else none
  | _ => none
noncomputable def bx_nxk (I : rx_I) (ht : List rx_C) (z : rx_Z) (d : Nat) (st : List rx_V) : rx_Z := match z with
  | (_, F1, _, c0, s0, pc0, lv0, _) => (I, F1, ht, c0, s0, pc0 + d, lv0, st)
noncomputable def bx_bb (b : Option (Int × Int)) (lo hi : Int) : Bool := match b with
  | some (a, c) => decide (lo ≤ a) && decide (c ≤ hi)
  | none => false
noncomputable def bx_fits (dmf : Nat → Int → Bool) (I : rx_I) (ht : List rx_C) (tc n : Nat) (t : bx_T) (v : rx_V) : Bool := match v with
  | .inr (0, e) => t.1 == 0 && (bx_bb (rx_bi I e) t.2.1 t.2.2 && (tc == 0 || (tc == 1 && bx_bb (rx_bi I e) 0 1)))
  | .inr (1, e) => t.1 == 0 && (bx_bb (rx_bl I e) t.2.1 t.2.2 && tc == 2)
  | .inr (3, e) => tc == 3 && ((t.1 == 1 && (e.1 == n && e.2 == t.2.1)) || (t.1 == 2 && ((e.1 == 0 && dmf t.2.1.toNat e.2) || (e.2 == 0 && bx_fd ht e.1 == some t.2.1.toNat))))
  | _ => false
theorem bx_fd_ok {D : bx_D} {ad xa : Nat → Nat} {S : Nat → Int → Int} {N : Nat} {r : Nat → Int} {n d : Nat} : ∀ {ht : List rx_C}, bx_kns D ad xa S N ht r → bx_fd ht n = some d → D.2.1.2.2.2 d (r n) = true ∧ n < N
  | [], _, h => by cases h
  | q :: l, hk, h => by
    rw [bx_fd] at h
    split at h
    · rename_i hc
      have h0 := Option.some.inj h
      subst h0
      obtain ⟨h1, h2, h3⟩ := hk q List.mem_cons_self
      unfold bx_kn at h3
      rw [if_pos hc.2.2] at h3
      have e : rx_ev r q.1.1 = r n := by
        unfold rx_ev
        rw [hc.1, hc.2.1, Int.add_zero]
      rw [e] at h3
      exact ⟨h3, by rw [← hc.1]; exact h1⟩
    · exact bx_fd_ok (fun q hq => hk q (List.mem_cons_of_mem _ hq)) h
theorem bx_dm_ok {D : bx_D} {ad xa : Nat → Nat} {S : Nat → Int → Int} {N : Nat} {I : rx_I} {r : Nat → Int} {n : Nat} {d : Option Nat} {ht : List rx_C} (hs : rx_sat I r) (hk : bx_kns D ad xa S N ht r) (h : bx_dm ht n = some d) : bx_in D.2.1 d (r n) := by
  unfold bx_dm at h
  split at h
  · rename_i hn
    cases h
    subst hn
    exact hs.1
  · split at h
    · rename_i d0 hd
      cases h
      exact (bx_fd_ok hk hd).1
    · cases h
theorem bx_ck_ok {e : rx_E} {k : Nat} {v : rx_V} : ∀ {ht : List rx_C}, bx_ck ht e k = some v → ((e, k), v) ∈ ht
  | [], h => by cases h
  | q :: l, h => by
    rw [bx_ck] at h
    split at h
    · rename_i hc
      cases h
      obtain ⟨⟨⟨a, b⟩, c⟩, d⟩ := q
      obtain ⟨h1, h2, h3⟩ := hc
      dsimp only at h1 h2 h3
      subst h1; subst h2; subst h3
      exact List.mem_cons_self
    · exact List.mem_cons_of_mem _ (bx_ck_ok h)
theorem bx_bb_ok {b : Option (Int × Int)} {lo hi : Int} (h : bx_bb b lo hi = true) : ∃ a c : Int, b = some (a, c) ∧ lo ≤ a ∧ c ≤ hi := by
  unfold bx_bb at h
  split at h
  · rename_i a c
    rw [Bool.and_eq_true, decide_eq_true_eq, decide_eq_true_eq] at h
    exact ⟨a, c, rfl, h.1, h.2⟩
  · exact absurd h Bool.false_ne_true
theorem bx_fits_ok {D : bx_D} {ad xa : Nat → Nat} {S : Nat → Int → Int} {I : rx_I} {r : Nat → Int} {ht : List rx_C} {tc n : Nat} {t : bx_T} {v : rx_V} (hs : rx_sat I r) (hk : bx_kns D ad xa S I.length ht r) (h : bx_fits D.2.1.2.2.2 I ht tc n t v = true) :
    rx_iv r ad xa v = bx_fv ad tc (bx_num r v) ∧ bx_okR D.2.1 (r n) t (bx_num r v) ∧ ∀ ty : FieldType, rx_tyc ty = tc → narrow ty (rx_iv r ad xa v) = rx_iv r ad xa v ∧ fits ty (rx_iv r ad xa v) = true := by
  unfold bx_fits at h
  split at h
  · rename_i e
    simp only [Bool.and_eq_true, Bool.or_eq_true, beq_iff_eq] at h
    obtain ⟨h1, h2, h3⟩ := h
    obtain ⟨a, c, hb, g1, g2⟩ := bx_bb_ok h2
    obtain ⟨b1, b2, b3, b4⟩ := rx_bi_ok hs hb
    have hok : bx_okR D.2.1 (r n) t (rx_ev r e) := by
      unfold bx_okR
      rw [h1]
      exact ⟨by omega, by omega⟩
    rcases h3 with h3 | ⟨h3, h4⟩
    · subst h3
      refine ⟨rfl, hok, fun ty hty => ?_⟩
      cases ty <;> first | exact ⟨rfl, rfl⟩ | cases hty
    · subst h3
      obtain ⟨a2, c2, hb2, k1, k2⟩ := bx_bb_ok h4
      rw [hb] at hb2
      cases hb2
      refine ⟨rfl, hok, fun ty hty => ?_⟩
      have h01 : rx_ev r e = 0 ∨ rx_ev r e = 1 := by omega
      have e1 : rx_iv r ad xa (.inr (0, e)) = .int (Int32.ofInt (rx_ev r e)) := rfl
      rw [e1]
      rcases h01 with q | q <;> rw [q] <;> (cases ty <;> first | exact ⟨rfl, rfl⟩ | cases hty)
  · rename_i e
    simp only [Bool.and_eq_true, beq_iff_eq] at h
    obtain ⟨h1, h2, h3⟩ := h
    obtain ⟨a, c, hb, g1, g2⟩ := bx_bb_ok h2
    obtain ⟨b1, b2, b3, b4⟩ := rx_bl_ok hs hb
    subst h3
    refine ⟨rfl, ?_, fun ty hty => ?_⟩
    · unfold bx_okR
      rw [h1]
      exact ⟨by show t.2.1 ≤ rx_ev r e; omega, by show rx_ev r e ≤ t.2.2; omega⟩
    · cases ty <;> first | exact ⟨rfl, rfl⟩ | cases hty
  · rename_i e
    simp only [Bool.and_eq_true, Bool.or_eq_true, beq_iff_eq] at h
    obtain ⟨h1, h2⟩ := h
    subst h1
    refine ⟨rfl, ?_, fun ty hty => ?_⟩
    · rcases h2 with ⟨g1, g2, g3⟩ | ⟨g1, g2⟩
      · unfold bx_okR
        rw [g1]
        show rx_ev r e = r n + t.2.1
        unfold rx_ev
        rw [g2, g3]
      · unfold bx_okR
        rw [g1]
        show D.2.1.2.2.2 t.2.1.toNat (rx_ev r e) = true
        rcases g2 with ⟨k1, k2⟩ | ⟨k1, k2⟩
        · have e1 : rx_ev r e = e.2 := by
            unfold rx_ev
            rw [k1, hs.1, Int.zero_add]
          rw [e1]
          exact k2
        · have e1 : rx_ev r e = r e.1 := by
            unfold rx_ev
            rw [k1, Int.add_zero]
          rw [e1]
          exact (bx_fd_ok hk k2).1
    · cases ty <;> first | exact ⟨rfl, rfl⟩ | cases hty
  · exact absurd h Bool.false_ne_true

section BXH
variable {p : Program} {l : Launch} {e : Env} {R : Room} {s : State} {m : MethodId} {args : Array Value} {below : List Frame} {meth : Method} {c : Code} {Q : State → Prop}
variable {D : bx_D} {cl : List vw_C} {A : Nat → Prop} {xa : Nat → Nat} {nL : Nat} {H0 H : Heap} {locs : List Loc} {ls : Array Slot} {r : Nat → Int} {ad : Nat → Nat}
variable {cc : ByteArray} {z : rx_Z} {zs : List rx_Z} {V : bx_V} {S : Nat → Int → Int}
theorem bx_nv_ok {tc n np : Nat} {t : bx_T} {I I2 : rx_I} {ht ht2 : List rx_C} {v : rx_V} {w : Int} (hV : bx_VOK D.2.1 V) (hnp : np = D.2.1.2.1) (hs : rx_sat I r) (hn : n < I.length) (hk : bx_kns D ad xa S I.length ht r) (h : bx_nv tc n np t I ht = some (I2, ht2, v)) (hw : bx_okR D.2.1 (r n) t w) :
    ∃ r_p : Nat → Int, rx_same I.length r r_p ∧ rx_sat I2 r_p ∧ I.length ≤ I2.length ∧ rx_sc I2.length 0 v ∧ bx_kns D ad xa S I2.length ht2 r_p ∧ rx_iv r_p ad xa v = bx_fv ad tc w ∧ bx_num r_p v = w ∧ ∀ S0 : Nat → Int → Int, bx_chain D.2.1 I.length r S0 ht S → bx_chain D.2.1 I2.length r_p S0 ht2 S := by
  unfold bx_nv at h
  split at h
  · rename_i lo hi
    have hw : lo ≤ w ∧ w ≤ hi := hw
    have hsat := rx_sat_up (z := w) hs hw.1 hw.2
    have hev : rx_ev (rx_up r I.length w) (I.length, 0) = w := by
      unfold rx_ev
      rw [rx_up_self, Int.add_zero]
    have hlen : I.length ≤ (I ++ [(lo, hi)]).length := by simp
    have hlt : I.length < (I ++ [(lo, hi)]).length := by simp
    split at h
    · rename_i htc
      cases h
      refine ⟨rx_up r I.length w, rx_up_same, hsat, hlen, hlt, hk.ext hlen rx_up_same, ?_, hev, fun S0 h => h.ext hlen rx_up_same⟩
      show Value.int (Int32.ofInt (rx_ev (rx_up r I.length w) (I.length, 0))) = _
      rw [hev]
      rcases (show tc = 0 ∨ tc = 1 by omega) with h | h <;> subst h <;> rfl
    · split at h
      · rename_i h2
        cases h
        subst h2
        refine ⟨rx_up r I.length w, rx_up_same, hsat, hlen, hlt, hk.ext hlen rx_up_same, ?_, hev, fun S0 h => h.ext hlen rx_up_same⟩
        show Value.long (Int64.ofInt (rx_ev (rx_up r I.length w) (I.length, 0))) = _
        rw [hev]
        rfl
      · cases h
  · rename_i o x
    split at h
    · rename_i htc
      cases h
      have hw : w = r n + o := hw
      obtain ⟨q, rfl⟩ : ∃ q, tc = q + 3 := ⟨tc - 3, by omega⟩
      exact ⟨r, rx_same.rf, hs, Nat.le_refl _, hn, hk, by rw [hw]; rfl, hw.symm, fun S0 h => h⟩
    · cases h
  · rename_i d x
    split at h
    · rename_i htc
      cases h
      have hw : D.2.1.2.2.2 d.toNat w = true := hw
      obtain ⟨b1, b2⟩ := hV.2.2.2.1 _ _ hw
      obtain ⟨htc, hd2⟩ := htc
      obtain ⟨q, rfl⟩ : ∃ q, tc = q + 3 := ⟨tc - 3, by omega⟩
      subst hnp
      have hsat := rx_sat_up (z := w) hs b1 b2
      have hev : rx_ev (rx_up r I.length w) (I.length, 0) = w := by
        unfold rx_ev
        rw [rx_up_self, Int.add_zero]
      have hlen : I.length ≤ (I ++ [(0, (D.2.1.2.1 : Int) + 1000)]).length := by simp
      have hlt : I.length < (I ++ [(0, (D.2.1.2.1 : Int) + 1000)]).length := by simp
      refine ⟨rx_up r I.length w, rx_up_same, hsat, hlen, hlt, fun y hy => ?_, ?_, hev, fun S0 h => bx_chain_skip (bx_notE (by show 1000000 + d.toNat < 3000000; omega)) (h.ext hlen rx_up_same)⟩
      · rcases List.mem_cons.mp hy with h | h
        · subst h
          refine ⟨hlt, trivial, ?_⟩
          unfold bx_kn
          rw [if_pos (Nat.le_add_right _ _)]
          show D.2.1.2.2.2 (1000000 + d.toNat - 1000000) (rx_ev (rx_up r I.length w) (I.length, 0)) = true
          rw [hev, Nat.add_sub_cancel_left]
          exact hw
        · exact (hk.ext hlen rx_up_same) y h
      · show Value.ref (ad (rx_ev (rx_up r I.length w) (I.length, 0)).toNat) = _
        rw [hev]
        rfl
    · cases h
  · cases h
end BXH
end
