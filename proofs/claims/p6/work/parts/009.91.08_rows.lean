/-! A REFLECTED MACHINE, part 7: rows -/
def ry_isTc (k : Nat) (tc : Nat) : Bool := tc == k
def ry_isRef (tc : Nat) : Bool := decide (5 ≤ tc)
section RYA
variable {p : Program} {l : Launch} {e : Env} {R : Room} {s : State} {m : MethodId} {args : Array Value} {below : List Frame} {meth : Method} {c : Code} {Q : State → Prop}
variable {D : va_G} {cl : List vw_C} {A : Nat → Prop} {xa : Nat → Nat} {nL : Nat} {H0 H : Heap} {locs : List Loc} {ls : Array Slot} {r : Nat → Int} {ad : Nat → Nat}
variable {cc : ByteArray} {z : ry_Z} {zs : List ry_Z}
/-- a row is in the table: an entry's bounds -/
theorem ry_ixIn {ix : ry_E} {I : ry_I} {lo hi : Int} {n : Nat} (h : ry_sat I r) (hb : ry_bi I ix = some (lo, hi)) (h0 : 0 ≤ lo) (hn : hi < (n : Int)) : vp_in (Int32.ofInt (ry_ev r ix)) n ∧ (Int32.ofInt (ry_ev r ix)).toNatClampNeg = (ry_ev r ix).toNat ∧ lo ≤ ry_ev r ix ∧ ry_ev r ix ≤ hi ∧ ix.1 < I.length := by
  obtain ⟨h1, h2, h3, h4⟩ := ry_bi_ok h hb
  refine ⟨vp_in_iff.mpr (by rw [h3]; omega), ?_, h1, h2, h4⟩
  show (Int32.ofInt (ry_ev r ix)).toInt.toNat = _
  rw [h3]
theorem ry_pushX_ok {x : ry_X} {t : List ry_V} {w : Value} (hR : ry_R D cl A s xa nL H0 z r ad H locs ls) (hz : ry_pushX z x t = some zs) (hsc : ry_xsc z.1.length z.2.2.1.length x) (hx : ry_ok r ad xa x w) (ht : ∀ v ∈ t, ry_sc z.1.length z.2.2.1.length v)
    (K : ∀ z_p ∈ zs, ry_G p l e R s m args below meth c Q D cl A xa nL H0 z.1.length z.2.2.1.length r ad z_p) : W p l e R s m args below meth c H locs z.2.2.2.1 z.2.2.2.2.1 Q (F0 m (ry_zpc z + 1) ls (w :: t.map (ry_iv r ad xa))) := by
  unfold ry_pushX at hz
  split at hz
  · rename_i v
    cases hz
    have hw : w = ry_iv r ad xa v := hx
    subst hw
    refine ry_at (K _ List.mem_cons_self) ry_same.rf ry_sameA.rf (ry_R_nx hR fun y hy => ?_) rfl rfl rfl rfl
    rcases List.mem_cons.mp hy with h | h
    · subst h; exact hsc
    · exact ht y h
  · cases hz
theorem ry_each_ok {ix : ry_E} {df : ry_X} {ov : List (Nat × ry_V)} {t : List ry_V} (hR : ry_R D cl A s xa nL H0 z r ad H locs ls) (hix : ix.1 < z.1.length) (ht : ∀ v ∈ t, ry_sc z.1.length z.2.2.1.length v) : ∀ (k : Nat) (lo : Int) (zs : List ry_Z), ry_each z ix df ov t k lo = some zs → lo ≤ ry_ev r ix → ry_ev r ix < lo + k → (∀ j : Nat, (j : Int) = ry_ev r ix → ry_xsc z.1.length z.2.2.1.length (ry_gt ov df j)) → 0 ≤ lo →
    ∀ w : Value, ry_ok r ad xa (ry_gt ov df (ry_ev r ix).toNat) w → (∀ z_p ∈ zs, ry_G p l e R s m args below meth c Q D cl A xa nL H0 z.1.length z.2.2.1.length r ad z_p) → W p l e R s m args below meth c H locs z.2.2.2.1 z.2.2.2.2.1 Q (F0 m (ry_zpc z + 1) ls (w :: t.map (ry_iv r ad xa))) := by
  intro k
  induction k with
  | zero =>
    intro lo zs _ h1 h2
    exact absurd h2 (by omega)
  | succ k ih =>
    intro lo zs hz h1 h2 hsc h0 w hw K
    rw [ry_each] at hz
    split at hz
    · rename_i v l hv hl
      cases hz
      by_cases hq : ry_ev r ix = lo
      · have e1 : (ry_ev r ix).toNat = lo.toNat := by rw [hq]
        rw [e1, hv] at hw
        have hw2 : w = ry_iv r ad xa v := hw
        subst hw2
        have hs2 := hsc lo.toNat (by omega)
        rw [hv] at hs2
        refine ry_way_ok (st := v :: t) hR (f := (2, ix, (0, lo))) ?_ (Nat.le_of_ble_eq_true rfl) hix (ry_pos hR.1) (fun y hy => ?_) fun z_p hz' => K z_p (List.mem_append_left _ hz')
        · show ry_ev r ix = ry_ev r (0, lo)
          rw [ry_ev0 hR.1]
          exact hq
        · rcases List.mem_cons.mp hy with h | h
          · subst h; exact hs2
          · exact ht y h
      · exact ih (lo + 1) l hl (by omega) (by omega) hsc (by omega) w hw fun z_p hz' => K z_p (List.mem_append_right _ hz')
    · cases hz
theorem ry_gt_out {ov : List (Nat × ry_V)} {df : ry_X} {lo hi : Int} {j : Nat} (h : ov.all (fun q => decide ((q.1 : Int) < lo) || decide (hi < (q.1 : Int))) = true) (h1 : lo ≤ (j : Int)) (h2 : (j : Int) ≤ hi) : ry_gt ov df j = df := by
  unfold ry_gt
  split
  · rename_i v hv
    have := List.all_eq_true.mp h _ (ry_lk_mem hv)
    rw [Bool.or_eq_true, decide_eq_true_eq, decide_eq_true_eq] at this
    dsimp only at this
    omega
  · rfl
theorem ry_h_ald_ok {okc : Nat → Bool} (hR : ry_R D cl A s xa nL H0 z r ad H locs ls) (hz : ry_h_ald okc z = some zs)
    (row : ∀ (ws : va_W) (tys : List (ClassId × FieldType)) (k n tc t0 : Nat) (cA : ClassId) (x : ry_cont) (i : Int32) (rest : List Value), okc tc = true → va_K D cl tys s → va_P D cl ws H → ws[k]? = some (ad k, .inl (cA, n, x)) → tys[t0]? = some (cA, ry_ty cl tc) → ry_sh tc x → vp_in i n →
      W p l e R s m args below meth c H locs z.2.2.2.1 z.2.2.2.2.1 Q (F0 m (ry_zpc z + 1) ls (ry_el x i.toNatClampNeg :: rest)) → W p l e R s m args below meth c H locs z.2.2.2.1 z.2.2.2.2.1 Q (F0 m (ry_zpc z) ls (.int i :: .ref (ad k) :: rest)))
    (K : ∀ z_p ∈ zs, ry_G p l e R s m args below meth c Q D cl A xa nL H0 z.1.length z.2.2.1.length r ad z_p) : W p l e R s m args below meth c H locs z.2.2.2.1 z.2.2.2.2.1 Q (F0 m (ry_zpc z) ls ((ry_zst z).map (ry_iv r ad xa))) := by
  unfold ry_h_ald at hz
  split at hz
  · rename_i ix t hix
    split at hz
    · rename_i k t2 hk
      split at hz
      · rename_i tc n df ov hht
        split at hz
        · rename_i hokc
          split at hz
          · rename_i lo hi hbi
            split at hz
            · rename_i hrange
              obtain ⟨ws, tys, hK, hP, hD, hS, hl, hc⟩ := id hR.2.2.2.1
              obtain ⟨hcs, e0, hw, hcell⟩ := hc k _ hht
              obtain ⟨cA, t0, x, he0, htys, hsh, hel⟩ := hcell
              subst he0
              obtain ⟨i1, i2, i3, i4, i5⟩ := ry_ixIn hR.1 hbi hrange.1 hrange.2
              have hsts := ry_stsc hR
              have e2 := ry_pr_ok hk
              subst e2
              rw [ry_pi_ok hix] at hsts ⊢
              refine row ws tys k n tc t0 cA x _ _ hokc hK hP hw htys hsh i1 ?_
              rw [i2]
              have hin : (ry_ev r ix).toNat < n := by omega
              have hval := hel _ hin
              have hscv := hcs _ hin
              have ht2 : ∀ v ∈ t2, ry_sc z.1.length z.2.2.1.length v := fun v hv => hsts v (List.mem_cons_of_mem _ (List.mem_cons_of_mem _ hv))
              split at hz
              · rename_i heq
                have e3 : lo.toNat = (ry_ev r ix).toNat := by omega
                rw [e3] at hz
                exact ry_pushX_ok hR hz hscv hval ht2 K
              · split at hz
                · rename_i hall
                  have e4 : ry_gt ov df (ry_ev r ix).toNat = df := ry_gt_out hall (by omega) (by omega)
                  rw [e4] at hval hscv
                  exact ry_pushX_ok hR hz hscv hval ht2 K
                · obtain ⟨m1, m2⟩ := ry_nm_ok (e := ix) hR.1
                  refine ry_each_ok hR (m2 i5) ht2 _ lo zs hz (by rw [m1]; exact i3) (by rw [m1]; omega) (fun j hj => ?_) hrange.1 _ ?_ K
                  · have : j = (ry_ev r ix).toNat := by rw [m1] at hj; omega
                    rw [this]
                    exact hscv
                  · rw [m1]
                    exact hval
            · cases hz
          · cases hz
        · cases hz
      · cases hz
    · cases hz
  · cases hz
theorem ry_ovset_gt {ov : List (Nat × ry_V)} {df : ry_X} {j i : Nat} {v : ry_V} : ry_gt (ry_ovset ov df j v) df i = if i = j then .inl v else ry_gt ov df i := by
  have hf : ∀ (ov : List (Nat × ry_V)), ry_lk (ov.filter (fun q => !(q.1 == j))) i = if i = j then none else ry_lk ov i := by
    intro ov
    induction ov with
    | nil => by_cases h : i = j <;> simp [ry_lk, h]
    | cons q ov ih =>
      by_cases hq : q.1 = j
      · rw [List.filter_cons_of_neg (by simp [hq]), ih]
        by_cases h : i = j
        · rw [if_pos h, if_pos h]
        · rw [if_neg h, if_neg h, ry_lk, if_neg (fun z => h (by rw [← z, hq]))]
      · rw [List.filter_cons_of_pos (by simp [hq]), ry_lk, ih]
        by_cases h : i = j
        · rw [if_pos h, if_pos h, if_neg (fun z => hq (by rw [z, h]))]
        · rw [if_neg h, if_neg h, ry_lk]
  unfold ry_ovset
  by_cases hd : (Sum.inl v : ry_X) = df
  · rw [if_pos hd]
    unfold ry_gt
    rw [hf]
    by_cases h : i = j
    · rw [if_pos h, if_pos h]
      exact hd.symm
    · rw [if_neg h, if_neg h]
  · rw [if_neg hd]
    unfold ry_gt
    rw [ry_lk, hf]
    dsimp only
    by_cases h : i = j
    · rw [if_pos h.symm, if_pos h]
    · rw [if_neg (fun z => h z.symm), if_neg h, if_neg h]
theorem ry_h_ast_ok {okc : Nat → Bool} {okv : ry_I → List ry_C → Nat → ry_V → Bool} (hR : ry_R D cl A s xa nL H0 z r ad H locs ls) (hz : ry_h_ast okc okv z = some zs)
    (row : ∀ (ws : va_W) (tys : List (ClassId × FieldType)) (k n tc t0 : Nat) (cA : ClassId) (x : ry_cont) (i : Int32) (v : ry_V) (rest : List Value), okc tc = true → okv z.1 z.2.2.1 tc v = true → va_K D cl tys s → va_P D cl ws H → va_D A ws → va_S A H0 H locs → (∀ (k : Nat) (x : ry_C), z.2.2.1[k]? = some x → ∃ e : va_E, ws[k]? = some (ad k, e) ∧ ry_cell cl tys r ad xa x e) → ws[k]? = some (ad k, .inl (cA, n, x)) → tys[t0]? = some (cA, ry_ty cl tc) → ry_sh tc x → vp_in i n →
      (∀ (x' : ry_cont) (H1 : Heap) (locs1 : List Loc), ry_sh tc x' → (∀ j : Nat, ry_el x' j = if j = i.toNatClampNeg then ry_iv r ad xa v else ry_el x j) → va_P D cl (ws.set k (ad k, .inl (cA, n, x'))) H1 → va_D A (ws.set k (ad k, .inl (cA, n, x'))) → va_S A H0 H1 locs1 → W p l e R s m args below meth c H1 locs1 z.2.2.2.1 z.2.2.2.2.1 Q (F0 m (ry_zpc z + 1) ls rest)) →
      W p l e R s m args below meth c H locs z.2.2.2.1 z.2.2.2.2.1 Q (F0 m (ry_zpc z) ls (ry_iv r ad xa v :: .int i :: .ref (ad k) :: rest)))
    (K : ∀ z_p ∈ zs, ry_G p l e R s m args below meth c Q D cl A xa nL H0 z.1.length z.2.2.1.length r ad z_p) : W p l e R s m args below meth c H locs z.2.2.2.1 z.2.2.2.2.1 Q (F0 m (ry_zpc z) ls ((ry_zst z).map (ry_iv r ad xa))) := by
  unfold ry_h_ast at hz
  split at hz
  · rename_i v tt hv
    split at hz
    · rename_i ix t hix
      split at hz
      · rename_i k t2 hk
        split at hz
        · rename_i tc n df ov hht
          split at hz
          · rename_i hok
            rw [Bool.and_eq_true] at hok
            split at hz
            · rename_i lo hi hbi
              split at hz
              · rename_i hrange
                cases hz
                obtain ⟨ws, tys, hK, hP, hD, hS, hl, hc⟩ := id hR.2.2.2.1
                obtain ⟨hcs, e0, hw, hcell⟩ := hc k _ hht
                obtain ⟨cA, t0, x, he0, htys, hsh, hel⟩ := hcell
                subst he0
                obtain ⟨i1, i2, i3, i4, i5⟩ := ry_ixIn hR.1 hbi hrange.1 hrange.2.1
                have hsts := ry_stsc hR
                have e2 := ry_pr_ok hk
                subst e2
                have e3 := ry_pi_ok hix
                subst e3
                rw [ry_pv_ok hv] at hsts ⊢
                have hj : lo.toNat = (ry_ev r ix).toNat := by omega
                refine row ws tys k n tc t0 cA x _ v _ hok.1 hok.2 hK hP hD hS (fun k x hx => (hc k x hx).2) hw htys hsh i1 fun x' H1 locs1 hsh' hel' hP1 hD1 hS1 => ?_
                refine ry_at (K _ List.mem_cons_self) ry_same.rf ry_sameA.rf (ry_R_nxh hR (by rw [List.length_set]) (ry_W_set hK hl hc ?_ ?_ hP1 hD1 hS1) fun y hy => hsts y (List.mem_cons_of_mem _ (List.mem_cons_of_mem _ (List.mem_cons_of_mem _ hy)))) rfl rfl rfl rfl
                · intro j hjn
                  rw [ry_ovset_gt]
                  split
                  · exact hsts _ List.mem_cons_self
                  · exact hcs j hjn
                · refine ⟨cA, t0, x', rfl, htys, hsh', fun j hjn => ?_⟩
                  rw [ry_ovset_gt, hel' j, i2, hj]
                  split
                  · exact rfl
                  · exact hel j hjn
              · cases hz
            · cases hz
          · cases hz
        · cases hz
      · cases hz
    · cases hz
  · cases hz
end RYA
