/-! A REFLECTED MACHINE, part 7: rows -/
def rx_isTc (k : Nat) (tc : Nat) : Bool := tc == k
def rx_isRef (tc : Nat) : Bool := decide (5 ≤ tc)
section RXA
variable {p : Program} {l : Launch} {e : Env} {R : Room} {s : State} {m : MethodId} {args : Array Value} {below : List Frame} {meth : Method} {c : Code} {Q : State → Prop}
variable {D : va_G} {cl : List vw_C} {A : Nat → Prop} {xa : Nat → Nat} {nL : Nat} {H0 H : Heap} {locs : List Loc} {ls : Array Slot} {r : Nat → Int} {ad : Nat → Nat}
variable {cc : ByteArray} {z : rx_Z} {zs : List rx_Z}
/-- a row is in the table: an entry's bounds -/
theorem rx_ixIn {ix : rx_E} {I : rx_I} {lo hi : Int} {n : Nat} (h : rx_sat I r) (hb : rx_bi I ix = some (lo, hi)) (h0 : 0 ≤ lo) (hn : hi < (n : Int)) : vp_in (Int32.ofInt (rx_ev r ix)) n ∧ (Int32.ofInt (rx_ev r ix)).toNatClampNeg = (rx_ev r ix).toNat ∧ lo ≤ rx_ev r ix ∧ rx_ev r ix ≤ hi ∧ ix.1 < I.length := by
  obtain ⟨h1, h2, h3, h4⟩ := rx_bi_ok h hb
  refine ⟨vp_in_iff.mpr (by rw [h3]; omega), ?_, h1, h2, h4⟩
  show (Int32.ofInt (rx_ev r ix)).toInt.toNat = _
  rw [h3]
theorem rx_pushX_ok {x : rx_X} {t : List rx_V} {w : Value} (hR : rx_R D cl A s xa nL H0 z r ad H locs ls) (hz : rx_pushX z x t = some zs) (hsc : rx_xsc z.1.length z.2.2.1.length x) (hx : rx_ok r ad xa x w) (ht : ∀ v ∈ t, rx_sc z.1.length z.2.2.1.length v)
    (K : ∀ z' ∈ zs, rx_G p l e R s m args below meth c Q D cl A xa nL H0 z.1.length z.2.2.1.length r ad z') : W p l e R s m args below meth c H locs z.2.2.2.1 z.2.2.2.2.1 Q (F0 m (rx_zpc z + 1) ls (w :: t.map (rx_iv r ad xa))) := by
  unfold rx_pushX at hz
  split at hz
  · rename_i v
    cases hz
    have hw : w = rx_iv r ad xa v := hx
    subst hw
    refine rx_at (K _ List.mem_cons_self) rx_same.rf rx_sameA.rf (rx_R_nx hR fun y hy => ?_) rfl rfl rfl rfl
    rcases List.mem_cons.mp hy with h | h
    · subst h; exact hsc
    · exact ht y h
  · cases hz
theorem rx_each_ok {ix : rx_E} {df : rx_X} {ov : List (Nat × rx_V)} {t : List rx_V} (hR : rx_R D cl A s xa nL H0 z r ad H locs ls) (hix : ix.1 < z.1.length) (ht : ∀ v ∈ t, rx_sc z.1.length z.2.2.1.length v) : ∀ (k : Nat) (lo : Int) (zs : List rx_Z), rx_each z ix df ov t k lo = some zs → lo ≤ rx_ev r ix → rx_ev r ix < lo + k → (∀ j : Nat, (j : Int) = rx_ev r ix → rx_xsc z.1.length z.2.2.1.length (rx_gt ov df j)) → 0 ≤ lo →
    ∀ w : Value, rx_ok r ad xa (rx_gt ov df (rx_ev r ix).toNat) w → (∀ z' ∈ zs, rx_G p l e R s m args below meth c Q D cl A xa nL H0 z.1.length z.2.2.1.length r ad z') → W p l e R s m args below meth c H locs z.2.2.2.1 z.2.2.2.2.1 Q (F0 m (rx_zpc z + 1) ls (w :: t.map (rx_iv r ad xa))) := by
  intro k
  induction k with
  | zero =>
    intro lo zs _ h1 h2
    exact absurd h2 (by omega)
  | succ k ih =>
    intro lo zs hz h1 h2 hsc h0 w hw K
    rw [rx_each] at hz
    split at hz
    · rename_i v l hv hl
      cases hz
      by_cases hq : rx_ev r ix = lo
      · have e1 : (rx_ev r ix).toNat = lo.toNat := by rw [hq]
        rw [e1, hv] at hw
        have hw2 : w = rx_iv r ad xa v := hw
        subst hw2
        have hs2 := hsc lo.toNat (by omega)
        rw [hv] at hs2
        refine rx_way_ok (st := v :: t) hR (f := (2, ix, (0, lo))) ?_ (Nat.le_of_ble_eq_true rfl) hix (rx_pos hR.1) (fun y hy => ?_) fun z' hz' => K z' (List.mem_append_left _ hz')
        · show rx_ev r ix = rx_ev r (0, lo)
          rw [rx_ev0 hR.1]
          exact hq
        · rcases List.mem_cons.mp hy with h | h
          · subst h; exact hs2
          · exact ht y h
      · exact ih (lo + 1) l hl (by omega) (by omega) hsc (by omega) w hw fun z' hz' => K z' (List.mem_append_right _ hz')
    · cases hz
theorem rx_gt_out {ov : List (Nat × rx_V)} {df : rx_X} {lo hi : Int} {j : Nat} (h : ov.all (fun q => decide ((q.1 : Int) < lo) || decide (hi < (q.1 : Int))) = true) (h1 : lo ≤ (j : Int)) (h2 : (j : Int) ≤ hi) : rx_gt ov df j = df := by
  unfold rx_gt
  split
  · rename_i v hv
    have := List.all_eq_true.mp h _ (rx_lk_mem hv)
    rw [Bool.or_eq_true, decide_eq_true_eq, decide_eq_true_eq] at this
    dsimp only at this
    omega
  · rfl
theorem rx_h_ald_ok {okc : Nat → Bool} (hR : rx_R D cl A s xa nL H0 z r ad H locs ls) (hz : rx_h_ald okc z = some zs)
    (row : ∀ (ws : va_W) (tys : List (ClassId × FieldType)) (k n tc t0 : Nat) (cA : ClassId) (x : rx_cont) (i : Int32) (rest : List Value), okc tc = true → va_K D cl tys s → va_P D cl ws H → ws[k]? = some (ad k, .inl (cA, n, x)) → tys[t0]? = some (cA, rx_ty cl tc) → rx_sh tc x → vp_in i n →
      W p l e R s m args below meth c H locs z.2.2.2.1 z.2.2.2.2.1 Q (F0 m (rx_zpc z + 1) ls (rx_el x i.toNatClampNeg :: rest)) → W p l e R s m args below meth c H locs z.2.2.2.1 z.2.2.2.2.1 Q (F0 m (rx_zpc z) ls (.int i :: .ref (ad k) :: rest)))
    (K : ∀ z' ∈ zs, rx_G p l e R s m args below meth c Q D cl A xa nL H0 z.1.length z.2.2.1.length r ad z') : W p l e R s m args below meth c H locs z.2.2.2.1 z.2.2.2.2.1 Q (F0 m (rx_zpc z) ls ((rx_zst z).map (rx_iv r ad xa))) := by
  unfold rx_h_ald at hz
  split at hz
  · rename_i ix t hix
    split at hz
    · rename_i k t2 hk
      split at hz
      · rename_i tc n df ov hht
        split at hz
        · rename_i hokc
          split at hz
          · rename_i lo hi hbi
            split at hz
            · rename_i hrange
              obtain ⟨ws, tys, hK, hP, hD, hS, hl, hc⟩ := id hR.2.2.2.1
              obtain ⟨hcs, e0, hw, hcell⟩ := hc k _ hht
              obtain ⟨cA, t0, x, he0, htys, hsh, hel⟩ := hcell
              subst he0
              obtain ⟨i1, i2, i3, i4, i5⟩ := rx_ixIn hR.1 hbi hrange.1 hrange.2
              have hsts := rx_stsc hR
              have e2 := rx_pr_ok hk
              subst e2
              rw [rx_pi_ok hix] at hsts ⊢
              refine row ws tys k n tc t0 cA x _ _ hokc hK hP hw htys hsh i1 ?_
              rw [i2]
              have hin : (rx_ev r ix).toNat < n := by omega
              have hval := hel _ hin
              have hscv := hcs _ hin
              have ht2 : ∀ v ∈ t2, rx_sc z.1.length z.2.2.1.length v := fun v hv => hsts v (List.mem_cons_of_mem _ (List.mem_cons_of_mem _ hv))
              split at hz
              · rename_i heq
                have e3 : lo.toNat = (rx_ev r ix).toNat := by omega
                rw [e3] at hz
                exact rx_pushX_ok hR hz hscv hval ht2 K
              · split at hz
                · rename_i hall
                  have e4 : rx_gt ov df (rx_ev r ix).toNat = df := rx_gt_out hall (by omega) (by omega)
                  rw [e4] at hval hscv
                  exact rx_pushX_ok hR hz hscv hval ht2 K
                · obtain ⟨m1, m2⟩ := rx_nm_ok (e := ix) hR.1
                  refine rx_each_ok hR (m2 i5) ht2 _ lo zs hz (by rw [m1]; exact i3) (by rw [m1]; omega) (fun j hj => ?_) hrange.1 _ ?_ K
                  · have : j = (rx_ev r ix).toNat := by rw [m1] at hj; omega
                    rw [this]
                    exact hscv
                  · rw [m1]
                    exact hval
            · cases hz
          · cases hz
        · cases hz
      · cases hz
    · cases hz
  · cases hz
theorem rx_ovset_gt {ov : List (Nat × rx_V)} {df : rx_X} {j i : Nat} {v : rx_V} : rx_gt (rx_ovset ov df j v) df i = if i = j then .inl v else rx_gt ov df i := by
  have hf : ∀ (ov : List (Nat × rx_V)), rx_lk (ov.filter (fun q => !(q.1 == j))) i = if i = j then none else rx_lk ov i := by
    intro ov
    induction ov with
    | nil => by_cases h : i = j <;> simp [rx_lk, h]
    | cons q ov ih =>
      by_cases hq : q.1 = j
      · rw [List.filter_cons_of_neg (by simp [hq]), ih]
        by_cases h : i = j
        · rw [if_pos h, if_pos h]
        · rw [if_neg h, if_neg h, rx_lk, if_neg (fun z => h (by rw [← z, hq]))]
      · rw [List.filter_cons_of_pos (by simp [hq]), rx_lk, ih]
        by_cases h : i = j
        · rw [if_pos h, if_pos h, if_neg (fun z => hq (by rw [z, h]))]
        · rw [if_neg h, if_neg h, rx_lk]
  unfold rx_ovset
  by_cases hd : (Sum.inl v : rx_X) = df
  · rw [if_pos hd]
    unfold rx_gt
    rw [hf]
    by_cases h : i = j
    · rw [if_pos h, if_pos h]
      exact hd.symm
    · rw [if_neg h, if_neg h]
  · rw [if_neg hd]
    unfold rx_gt
    rw [rx_lk, hf]
    dsimp only
    by_cases h : i = j
    · rw [if_pos h.symm, if_pos h]
    · rw [if_neg (fun z => h z.symm), if_neg h, if_neg h]
theorem rx_h_ast_ok {okc : Nat → Bool} {okv : rx_I → List rx_C → Nat → rx_V → Bool} (hR : rx_R D cl A s xa nL H0 z r ad H locs ls) (hz : rx_h_ast okc okv z = some zs)
    (row : ∀ (ws : va_W) (tys : List (ClassId × FieldType)) (k n tc t0 : Nat) (cA : ClassId) (x : rx_cont) (i : Int32) (v : rx_V) (rest : List Value), okc tc = true → okv z.1 z.2.2.1 tc v = true → va_K D cl tys s → va_P D cl ws H → va_D A ws → va_S A H0 H locs → (∀ (k : Nat) (x : rx_C), z.2.2.1[k]? = some x → ∃ e : va_E, ws[k]? = some (ad k, e) ∧ rx_cell cl tys r ad xa x e) → ws[k]? = some (ad k, .inl (cA, n, x)) → tys[t0]? = some (cA, rx_ty cl tc) → rx_sh tc x → vp_in i n →
      (∀ (x' : rx_cont) (H1 : Heap) (locs1 : List Loc), rx_sh tc x' → (∀ j : Nat, rx_el x' j = if j = i.toNatClampNeg then rx_iv r ad xa v else rx_el x j) → va_P D cl (ws.set k (ad k, .inl (cA, n, x'))) H1 → va_D A (ws.set k (ad k, .inl (cA, n, x'))) → va_S A H0 H1 locs1 → W p l e R s m args below meth c H1 locs1 z.2.2.2.1 z.2.2.2.2.1 Q (F0 m (rx_zpc z + 1) ls rest)) →
      W p l e R s m args below meth c H locs z.2.2.2.1 z.2.2.2.2.1 Q (F0 m (rx_zpc z) ls (rx_iv r ad xa v :: .int i :: .ref (ad k) :: rest)))
    (K : ∀ z' ∈ zs, rx_G p l e R s m args below meth c Q D cl A xa nL H0 z.1.length z.2.2.1.length r ad z') : W p l e R s m args below meth c H locs z.2.2.2.1 z.2.2.2.2.1 Q (F0 m (rx_zpc z) ls ((rx_zst z).map (rx_iv r ad xa))) := by
  unfold rx_h_ast at hz
  split at hz
  · rename_i v tt hv
    split at hz
    · rename_i ix t hix
      split at hz
      · rename_i k t2 hk
        split at hz
        · rename_i tc n df ov hht
          split at hz
          · rename_i hok
            rw [Bool.and_eq_true] at hok
            split at hz
            · rename_i lo hi hbi
              split at hz
              · rename_i hrange
                cases hz
                obtain ⟨ws, tys, hK, hP, hD, hS, hl, hc⟩ := id hR.2.2.2.1
                obtain ⟨hcs, e0, hw, hcell⟩ := hc k _ hht
                obtain ⟨cA, t0, x, he0, htys, hsh, hel⟩ := hcell
                subst he0
                obtain ⟨i1, i2, i3, i4, i5⟩ := rx_ixIn hR.1 hbi hrange.1 hrange.2.1
                have hsts := rx_stsc hR
                have e2 := rx_pr_ok hk
                subst e2
                have e3 := rx_pi_ok hix
                subst e3
                rw [rx_pv_ok hv] at hsts ⊢
                have hj : lo.toNat = (rx_ev r ix).toNat := by omega
                refine row ws tys k n tc t0 cA x _ v _ hok.1 hok.2 hK hP hD hS (fun k x hx => (hc k x hx).2) hw htys hsh i1 fun x' H1 locs1 hsh' hel' hP1 hD1 hS1 => ?_
                refine rx_at (K _ List.mem_cons_self) rx_same.rf rx_sameA.rf (rx_R_nxh hR (by rw [List.length_set]) (rx_W_set hK hl hc ?_ ?_ hP1 hD1 hS1) fun y hy => hsts y (List.mem_cons_of_mem _ (List.mem_cons_of_mem _ (List.mem_cons_of_mem _ hy)))) rfl rfl rfl rfl
                · intro j hjn
                  rw [rx_ovset_gt]
                  split
                  · exact hsts _ List.mem_cons_self
                  · exact hcs j hjn
                · refine ⟨cA, t0, x', rfl, htys, hsh', fun j hjn => ?_⟩
                  rw [rx_ovset_gt, hel' j, i2, hj]
                  split
                  · exact rfl
                  · exact hel j hjn
              · cases hz
            · cases hz
          · cases hz
        · cases hz
      · cases hz
    · cases hz
  · cases hz
end RXA
