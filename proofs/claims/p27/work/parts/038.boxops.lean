section
noncomputable def rx_nxh (ht : List rx_C) (z : rx_Z) (d : Nat) (st : List rx_V) : rx_Z := match z with
  | (I0, F1, _, c0, s0, pc0, lv0, _) => (I0, F1, ht, c0, s0, pc0 + d, lv0, st)
noncomputable def bx_ee (t : Nat) (e ix : rx_E) (v : rx_V) : rx_C := (((0, 0), 3000000 * (t + 3 * (bx_en e + 340282366920938463463374607431768211456 * bx_en ix))), v)
noncomputable def bx_log1 (t : Nat) (e ix : rx_E) (q : rx_C) (ht : List rx_C) : Option (List rx_C) := if bx_isE q = true ∧ q.1.1 = (0, 0) ∧ bx_kd q = t ∧ bx_pe q = e ∧ bx_ie q = ix then some (q :: ht) else none
noncomputable def bx_log (md : Nat → Nat → Bool) (t : Nat) (e ix : rx_E) (v : rx_V) (ht : List rx_C) : Option (List rx_C) := match bx_lg md with
  | false => some ht
  | true => bx_log1 t e ix (bx_ee t e ix v) ht
noncomputable def bx_logR (md : Nat → Nat → Bool) (e ix : rx_E) (v : rx_V) (ht : List rx_C) : Option (List rx_C) := match v with
  | .inr (0, _) => bx_log md 0 e ix v ht
  | .inr (1, _) => bx_log md 0 e ix v ht
  | .inr (3, (n + 1, _)) => bx_log md 0 e ix v ht
  | _ => some ht
noncomputable def bx_h_get (V : bx_V) (np : Nat) (md : Nat → Nat → Bool) (fr : Nat → Option rx_Q) (idx : Nat) (z : rx_Z) : Option (List rx_Z) := match bx_pp (rx_zst z), fr idx with
  | some (e, t), some q => match bx_dm z.2.2.1 e.1 with
    | some d => match V.1 d e.2 with
      | some (.inl (ci, tcs)) => if ci = q.1 ∧ q.2.1 < 1000000 ∧ tcs[q.2.1]? = some q.2.2.1 then (match bx_ck z.2.2.1 e q.2.1 with
        | some v => some [rx_nx z 3 (v :: t)]
        | none => match V.2.1 d e.2 q.2.1 q.2.1 1 with
          | some ty => match bx_nv q.2.2.1 e.1 np ty z.1 z.2.2.1 with
            | some (I, ht, v) => match bx_logR md e (0, (q.2.1 : Int)) v (((e, q.2.1), v) :: ht) with
              | some ht2 => some [bx_nxk I ht2 z 3 (v :: t)]
              | none => none
            | none => none
          | none => none) else none
      | _ => none
    | none => none
  | _, _ => none
noncomputable def bx_keep (V : bx_V) (ht : List rx_C) (k ci : Nat) (q : rx_C) : Bool := decide (1000000 ≤ q.1.2) || (!(q.1.2 == k) || (match bx_dm ht q.1.1.1 with
  | some d => match V.1 d q.1.1.2 with
    | some (.inl (ci_p, _)) => !(ci_p == ci)
    | _ => false
  | none => false))
noncomputable def bx_h_put (V : bx_V) (dmf : Nat → Int → Bool) (md : Nat → Nat → Bool) (fr : Nat → Option rx_Q) (idx : Nat) (z : rx_Z) : Option (List rx_Z) := match rx_pv (rx_zst z), fr idx with
  | some (v, t), some q => match bx_pp t with
    | some (e, t2) => match bx_dm z.2.2.1 e.1 with
      | some d => match V.1 d e.2 with
        | some (.inl (ci, tcs)) => match V.2.2 d e.2 q.2.1 q.2.1 1 with
          | some ty => if ci = q.1 ∧ q.2.1 < 1000000 ∧ tcs[q.2.1]? = some q.2.2.1 ∧ q.2.2.2.1 = false ∧ md ci q.2.1 = true ∧ bx_fits dmf z.1 z.2.2.1 q.2.2.1 e.1 ty v = true then (match bx_log md 1 e (0, (q.2.1 : Int)) v (((e, q.2.1), v) :: z.2.2.1.filter (bx_keep V z.2.2.1 q.2.1 ci)) with
              | some ht2 => some [rx_nxh ht2 z 3 t2]
              | none => none) else none
          | none => none
        | _ => none
      | none => none
    | none => none
  | _, _ => none
noncomputable def bx_kc (e : rx_E) (lo hi : Int) (v : rx_V) (ht : List rx_C) : List rx_C := if lo = hi ∧ lo < 1000000 then ((e, lo.toNat), v) :: ht else ht
noncomputable def bx_ckr (ht : List rx_C) (e : rx_E) (lo hi : Int) : Option rx_V := if lo = hi ∧ lo < 1000000 then bx_ck ht e lo.toNat else none
noncomputable def bx_h_ald (V : bx_V) (np : Nat) (md : Nat → Nat → Bool) (okc : Nat → Bool) (z : rx_Z) : Option (List rx_Z) := match rx_pi (rx_zst z) with
  | some (ix, t) => match bx_pp t with
    | some (e, t2) => match bx_dm z.2.2.1 e.1 with
      | some d => match V.1 d e.2 with
        | some (.inr (tc, n, _)) => if okc tc = true then (match rx_bi z.1 ix with
          | some (lo, hi) => if 0 ≤ lo ∧ hi < (n : Int) then (match bx_ckr z.2.2.1 e lo hi with
            | some v => some [rx_nx z 1 (v :: t2)]
            | none => match V.2.1 d e.2 (bx_str z.2.1 ix lo).1 hi (bx_str z.2.1 ix lo).2 with
              | some ty => match bx_nv tc e.1 np ty z.1 z.2.2.1 with
                | some (I, ht, v) => match bx_logR md e ix v (bx_kc e lo hi v ht) with
                  | some ht2 => some [bx_nxk I ht2 z 1 (v :: t2)]
                  | none => none
                | none => none
              | none => none) else none
          | none => none) else none
        | _ => none
      | none => none
    | none => none
  | none => none
noncomputable def bx_keepR (V : bx_V) (ht : List rx_C) (lo hi : Int) (g : Nat) (q : rx_C) : Bool := decide (1000000 ≤ q.1.2) || (decide ((q.1.2 : Int) < lo) || (decide (hi < (q.1.2 : Int)) || (match bx_dm ht q.1.1.1 with
  | some d => match V.1 d q.1.1.2 with
    | some (.inl _) => true
    | some (.inr (_, _, g_p)) => !(g_p == g)
    | none => false
  | none => false)))
noncomputable def bx_h_ast (V : bx_V) (dmf : Nat → Int → Bool) (md : Nat → Nat → Bool) (okc : Nat → Bool) (z : rx_Z) : Option (List rx_Z) := match rx_pv (rx_zst z) with
  | some (v, t0) => match rx_pi t0 with
    | some (ix, t) => match bx_pp t with
      | some (e, t2) => match bx_dm z.2.2.1 e.1 with
        | some d => match V.1 d e.2 with
          | some (.inr (tc, n, g)) => (match rx_bi z.1 ix with
            | some (lo, hi) => (match V.2.2 d e.2 (bx_str z.2.1 ix lo).1 hi (bx_str z.2.1 ix lo).2 with
              | some ty => if okc tc = true ∧ tc ≤ 2 ∧ 0 ≤ lo ∧ hi < (n : Int) ∧ bx_fits dmf z.1 z.2.2.1 tc e.1 ty v = true ∧ bx_mdr md g lo hi = true then (match bx_log md 1 e ix v (bx_kc e lo hi v (z.2.2.1.filter (bx_keepR V z.2.2.1 lo hi g))) with
                | some ht2 => some [rx_nxh ht2 z 1 t2]
                | none => none) else none
              | none => none)
            | none => none)
          | _ => none
        | none => none
      | none => none
    | none => none
  | none => none
noncomputable def bx_h_alen (V : bx_V) (z : rx_Z) : Option (List rx_Z) := match bx_pp (rx_zst z) with
  | some (e, t) => match bx_dm z.2.2.1 e.1 with
    | some d => match V.1 d e.2 with
      | some (.inr (_, n, _)) => some [rx_nx z 1 (rx_n (n : Int) :: t)]
      | _ => none
    | none => none
  | none => none
theorem bx_up_at {S : Nat → Int → Int} {p : Nat} {j v : Int} : bx_up S p j v p j = v := if_pos ⟨rfl, rfl⟩
theorem bx_up_ne {S : Nat → Int → Int} {p p_p : Nat} {j j_p v : Int} (h : ¬ (p_p = p ∧ j_p = j)) : bx_up S p j v p_p j_p = S p_p j_p := if_neg h
theorem bx_up_row {S : Nat → Int → Int} {p p_p : Nat} {j v : Int} (h : p_p ≠ p) : bx_up S p j v p_p = S p_p := funext fun _ => if_neg fun q => h q.1
theorem rx_sc.any {N M M_p : Nat} {v : rx_V} (h : rx_sc N M v) : rx_sc N M_p v := rx_sc.mono h (Nat.le_refl _) trivial
section BXO
variable {p : Program} {l : Launch} {e : Env} {R : Room} {s : State} {m : MethodId} {args : Array Value} {below : List Frame} {meth : Method} {c : Code} {Q : State → Prop}
variable {D : bx_D} {cl : List vw_C} {A : Nat → Prop} {xa : Nat → Nat} {nL : Nat} {H0 H : Heap} {locs : List Loc} {ls : Array Slot} {r : Nat → Int} {ad : Nat → Nat}
variable {cc : ByteArray} {z : rx_Z} {zs : List rx_Z} {V : bx_V}
theorem bx_R_nxk {I : rx_I} {ht_p : List rx_C} {d : Nat} {st : List rx_V} {r_p : Nat → Int} {H1 : Heap} {locs1 : List Loc} (hR : rx_R D cl A s xa nL H0 z r ad H locs ls) (hI : z.1.length ≤ I.length) (hr : rx_same z.1.length r r_p) (hsat : rx_sat I r_p) (hW : rx_W D cl A s xa I.length ht_p r_p ad H0 H1 locs1) (hs : ∀ v ∈ st, rx_sc I.length 0 v) : rx_R D cl A s xa nL H0 (bx_nxk I ht_p z d st) r_p ad H1 locs1 ls :=
  ⟨hsat, rx_facts_ext hR.2.1 hR.2.2.1 hr, hR.2.2.1.mono hI, hW, by
    have h := rx_lvh hR
    show lv_has ls nL (rx_lvs r_p ad xa (rx_zlv z))
    rw [rx_lvs_ext (rx_lvsc hR) hr rx_sameA.rf]
    exact h, fun q hq => rx_sc.any (rx_sc.mono (M_p := 0) (rx_lvsc hR q hq) hI trivial), fun v hv => rx_sc.any (hs v hv)⟩
theorem bx_R_nxh {ht_p : List rx_C} {d : Nat} {st : List rx_V} {H1 : Heap} {locs1 : List Loc} (hR : rx_R D cl A s xa nL H0 z r ad H locs ls) (hW : rx_W D cl A s xa z.1.length ht_p r ad H0 H1 locs1) (hs : ∀ v ∈ st, rx_sc z.1.length 0 v) : rx_R D cl A s xa nL H0 (rx_nxh ht_p z d st) r ad H1 locs1 ls :=
  ⟨hR.1, hR.2.1, hR.2.2.1, hW, hR.2.2.2.2.1, fun q hq => rx_sc.any (hR.2.2.2.2.2.1 q hq), fun v hv => rx_sc.any (hs v hv)⟩
theorem bx_log_sub {ht ht2 : List rx_C} {md : Nat → Nat → Bool} {t : Nat} {e ix : rx_E} {v : rx_V} (h : bx_log md t e ix v ht = some ht2) : (bx_lg md = false ∧ ht2 = ht) ∨ (bx_lg md = true ∧ ∃ q : rx_C, ht2 = q :: ht ∧ q.2 = v ∧ bx_isE q = true ∧ q.1.1 = (0, 0) ∧ bx_kd q = t ∧ bx_pe q = e ∧ bx_ie q = ix) := by
  unfold bx_log at h
  split at h
  · rename_i hl
    cases h
    exact Or.inl ⟨hl, rfl⟩
  · rename_i hl
    refine Or.inr ⟨hl, ?_⟩
    have hv : (bx_ee t e ix v).2 = v := rfl
    generalize bx_ee t e ix v = q at h hv
    unfold bx_log1 at h
    split at h
    · rename_i hc
      cases h
      exact ⟨q, rfl, hv, hc⟩
    · cases h
theorem bx_kns.evt {S : Nat → Int → Int} {N : Nat} {I : rx_I} {ht : List rx_C} {q : rx_C} (hV : bx_VOK D.2.1 V) (hs : rx_sat I r) (h0 : 0 < N) (hk : bx_kns D ad xa S N ht r) (h1 : bx_isE q = true) (h2 : q.1.1 = (0, 0)) (h3 : rx_sc N 0 q.2) : bx_kns D ad xa S N (q :: ht) r := fun y hy => by
  rcases List.mem_cons.mp hy with h | h
  · subst h
    have h4 := bx_isE_le h1
    refine ⟨by rw [h2]; exact h0, h3, ?_⟩
    unfold bx_kn
    rw [if_pos (by omega), h2, rx_ev0 hs]
    exact hV.2.2.2.2 _ (by omega)
  · exact hk y h
theorem bx_logR_ok {S S0 : Nat → Int → Int} {I : rx_I} {ht ht2 : List rx_C} {md : Nat → Nat → Bool} {e0 ix : rx_E} {v : rx_V} (hV : bx_VOK D.2.1 V) (hs : rx_sat I r) (hk : bx_kns D ad xa S I.length ht r) (hch : bx_lg md = true → bx_chain D.2.1 I.length r S0 ht S) (h : bx_logR md e0 ix v ht = some ht2)
    (h1 : rx_sc I.length 0 v) (h2 : e0.1 < I.length) (h3 : ix.1 < I.length) (h4 : S (rx_ev r e0).toNat (rx_ev r ix) = bx_num r v) : bx_kns D ad xa S I.length ht2 r ∧ (bx_lg md = true → bx_chain D.2.1 I.length r S0 ht2 S) := by
  have main : ∀ ht3, bx_log md 0 e0 ix v ht = some ht3 → bx_kns D ad xa S I.length ht3 r ∧ (bx_lg md = true → bx_chain D.2.1 I.length r S0 ht3 S) := fun ht3 h => by
    rcases bx_log_sub h with ⟨-, g2⟩ | ⟨g1, q, g2, g3, g4, g5, g6, g7, g8⟩
    · subst g2
      exact ⟨hk, hch⟩
    · subst g2
      subst g3
      refine ⟨hk.evt hV hs (rx_pos hs) g4 g5 h1, fun _ => bx_chain_evt g4 ⟨⟨h1, fun _ => ⟨by rw [g7]; exact h2, by rw [g8]; exact h3⟩⟩, ?_⟩⟩
      rw [if_pos g6, g7, g8]
      exact ⟨h4, hch g1⟩
  unfold bx_logR at h
  split at h
  · exact main _ h
  · exact main _ h
  · exact main _ h
  · cases h
    exact ⟨hk, hch⟩
theorem bx_logW_ok {S S1 S0 : Nat → Int → Int} {I : rx_I} {ht ht2 : List rx_C} {md : Nat → Nat → Bool} {e0 ix : rx_E} {v : rx_V} (hV : bx_VOK D.2.1 V) (hs : rx_sat I r) (hk : bx_kns D ad xa S I.length ht r) (hch : bx_lg md = true → bx_chain D.2.1 I.length r S0 ht S1) (h : bx_log md 1 e0 ix v ht = some ht2)
    (h1 : rx_sc I.length 0 v) (h2 : e0.1 < I.length) (h3 : ix.1 < I.length) (h4 : S = bx_up S1 (rx_ev r e0).toNat (rx_ev r ix) (bx_num r v)) : bx_kns D ad xa S I.length ht2 r ∧ (bx_lg md = true → bx_chain D.2.1 I.length r S0 ht2 S) := by
  rcases bx_log_sub h with ⟨g1, g2⟩ | ⟨g1, q, g2, g3, g4, g5, g6, g7, g8⟩
  · subst g2
    exact ⟨hk, fun g => by rw [g1] at g; exact absurd g Bool.false_ne_true⟩
  · subst g2
    subst g3
    refine ⟨hk.evt hV hs (rx_pos hs) g4 g5 h1, fun _ => bx_chain_evt g4 ⟨⟨h1, fun _ => ⟨by rw [g7]; exact h2, by rw [g8]; exact h3⟩⟩, ?_⟩⟩
    rw [if_neg (by rw [g6]; exact Nat.one_ne_zero), if_pos g6, g7, g8]
    exact ⟨S1, hch g1, h4⟩
theorem bx_h_get_ok {fr : Nat → Option rx_Q} {md : Nat → Nat → Bool} {np idx : Nat} {Ts : List Jvm.Cond} {own : String} (hexec : p.tables.exec = Jvm.exec) (hb : c.code = cc) (hts : ∀ w ∈ Ts, w.before args s = true) (hown : s.vm.findClass own = some m.cls) (hF : ∀ q, fr idx = some q → rx_Fok s args Ts own cl idx q) (hV : bx_VOK D.2.1 V) (hnp : np = D.2.1.2.1) (hmd : md = D.2.2.2) (hdg : decode cc (rx_zpc z) = .ok (.getfield idx, 3))
    (hR : rx_R D cl A s xa nL H0 z r ad H locs ls) (hz : bx_h_get V np md fr idx z = some zs)
    (K : ∀ z_p ∈ zs, rx_G p l e R s m args below meth c Q D cl A xa nL H0 z.1.length z.2.2.1.length r ad z_p) : W p l e R s m args below meth c H locs z.2.2.2.1 z.2.2.2.2.1 Q (F0 m (rx_zpc z) ls ((rx_zst z).map (rx_iv r ad xa))) := by
  subst hmd
  unfold bx_h_get at hz
  split at hz
  · rename_i e0 t q he hq
    split at hz
    · rename_i d hd
      split at hz
      · rename_i ci tcs hk
        split at hz
        · rename_i hc
          obtain ⟨S, ⟨ws, tys, hInv, hK, hP, hD, hl, hcell⟩, hS, hsm, hkn⟩ := id hR.2.2.2.1
          have hin := bx_dm_ok hR.1 hkn hd
          obtain ⟨p1, p2, p3⟩ := hV.1 d e0.2 _ hk _ hin
          obtain ⟨c0, hw, hce⟩ := hcell _ p2
          rw [p3] at hce
          obtain ⟨vs, hc0, hlen, hvs⟩ := hce
          subst hc0
          have hv := hvs q.2.1 q.2.2.1 hc.2.2
          have hst := rx_stsc hR
          rw [bx_pp_ok he] at hst ⊢
          have row : W p l e R s m args below meth c H locs z.2.2.2.1 z.2.2.2.2.1 Q (F0 m (rx_zpc z + 3) ls (bx_fv ad q.2.2.1 (S (r e0.1 + e0.2).toNat (q.2.1 : Int)) :: t.map (rx_iv r ad xa))) → W p l e R s m args below meth c H locs z.2.2.2.1 z.2.2.2.2.1 Q (F0 m (rx_zpc z) ls (((.inr (3, e0) :: t : List rx_V)).map (rx_iv r ad xa))) := fun kk => by
            obtain ⟨C, T, N, ty, f1, f2, f3, f4, f5, f6, f7, f8, f9⟩ := hF q hq
            rw [← hc.1] at f1
            rcases f9 with ⟨-, f9⟩ | ⟨-, host, f9⟩
            · exact va_get hexec hb hts f3 hown hK hP _ hw f1 q.2.1 f2 f9 (fun _ h => h) hv hdg kk
            · exact va_getN hexec hb hts f3 hown hK hP _ hw f1 q.2.1 f2 f9 (fun _ h => h) hv hdg kk
          refine row ?_
          split at hz
          · rename_i v hck
            cases hz
            obtain ⟨k1, k2, k3⟩ := hkn _ (bx_ck_ok hck)
            unfold bx_kn at k3
            rw [if_neg (by dsimp only; omega)] at k3
            obtain ⟨-, -, tc2, g2, g3⟩ := k3
            have g2 : bx_tcs (D.2.1.1 (r e0.1 + e0.2).toNat) q.2.1 = some tc2 := g2
            rw [p3] at g2
            have g2 : tcs[q.2.1]? = some tc2 := g2
            rw [hc.2.2] at g2
            cases g2
            refine rx_at (K _ List.mem_cons_self) rx_same.rf rx_sameA.rf (rx_R_nx hR fun y hy => ?_) rfl rfl rfl ?_
            · rcases List.mem_cons.mp hy with h | h
              · subst h; exact rx_sc.any k2
              · exact hst y (List.mem_cons_of_mem _ h)
            · show rx_iv r ad xa v :: t.map (rx_iv r ad xa) = _
              rw [show rx_iv r ad xa v = _ from g3]
              rfl
          · split at hz
            · rename_i ty hty
              split at hz
              · rename_i I2 ht2 v hnv
                split at hz
                case h_2 => cases hz
                rename_i ht3 hlog
                cases hz
                have hlt : e0.1 < z.1.length := hst _ List.mem_cons_self
                have hwd : q.2.1 < bx_wd (D.2.1.1 (r e0.1 + e0.2).toNat) := by
                  rw [p3]
                  exact (List.getElem?_eq_some_iff.mp hc.2.2).1
                obtain ⟨r_p, q1, q2, q3, q4, q5, q6, q7, q8⟩ := bx_nv_ok (w := S (r e0.1 + e0.2).toNat (q.2.1 : Int)) hV hnp hR.1 hlt hkn hnv (hV.2.1 d e0.2 _ _ _ ty hty _ hin _ _ (Int.le_refl _) (Int.le_refl _) (Int.emod_one _) (hInv _ _ p2 hwd))
                have hev : rx_ev r_p e0 = r e0.1 + e0.2 := rx_ev_ext hlt q1
                have hkn2 : bx_kns D ad xa S I2.length (((e0, q.2.1), v) :: ht2) r_p := fun y hy => by
                  rcases List.mem_cons.mp hy with h | h
                  · subst h
                    refine ⟨Nat.lt_of_lt_of_le hlt q3, q4, ?_⟩
                    unfold bx_kn
                    rw [if_neg (by dsimp only; omega)]
                    show 0 ≤ rx_ev r_p e0 ∧ (rx_ev r_p e0).toNat < D.2.1.2.1 ∧ _
                    rw [hev]
                    refine ⟨p1, p2, q.2.2.1, ?_, q6⟩
                    show bx_tcs (D.2.1.1 (r e0.1 + e0.2).toNat) q.2.1 = _
                    rw [p3]
                    exact hc.2.2
                  · exact q5 y h
                obtain ⟨l1, l2⟩ := bx_logR_ok (S0 := D.2.2.1) hV q2 hkn2 (fun hl => bx_chain_skip (bx_notE (by show q.2.1 < 3000000; omega)) (q8 _ (hsm.2 hl))) hlog q4 (Nat.lt_of_lt_of_le hlt q3) (rx_pos q2) (by
                  rw [hev, rx_ev0 q2, q7])
                refine rx_at (K _ List.mem_cons_self) q1 rx_sameA.rf (bx_R_nxk hR q3 q1 q2 ⟨S, ⟨ws, tys, hInv, hK, hP, hD, hl, hcell⟩, hS, ⟨hsm.1, l2⟩, l1⟩ fun y hy => ?_) rfl rfl rfl ?_ q3
                · rcases List.mem_cons.mp hy with h | h
                  · subst h; exact q4
                  · exact rx_sc.any (rx_sc.mono (M_p := 0) (hst y (List.mem_cons_of_mem _ h)) q3 trivial)
                · show rx_iv r_p ad xa v :: t.map (rx_iv r_p ad xa) = _
                  rw [q6, rx_st_ext (fun y hy => hst y (List.mem_cons_of_mem _ hy)) q1 rx_sameA.rf]
              · cases hz
            · cases hz
        · cases hz
      · cases hz
    · cases hz
  · cases hz
theorem bx_keep_ok {S : Nat → Int → Int} {ht : List rx_C} {N P k ci : Nat} {tcs : List Nat} {w : Int} {I : rx_I} {q : rx_C} (hV : bx_VOK D.2.1 V) (hs : rx_sat I r) (hk : bx_kns D ad xa S N ht r) (hP : D.2.1.1 P = .inl (ci, tcs)) (hq : q ∈ ht.filter (bx_keep V ht k ci)) : q.1.1.1 < N ∧ rx_sc N 0 q.2 ∧ bx_kn D.2.1 ad xa (bx_up S P (k : Int) w) r q := by
  obtain ⟨h1, h2⟩ := List.mem_filter.mp hq
  obtain ⟨g1, g2, g3⟩ := hk q h1
  refine ⟨g1, g2, ?_⟩
  unfold bx_kn at g3 ⊢
  split
  · rename_i hc
    rw [if_pos hc] at g3
    exact g3
  · rename_i hc
    rw [if_neg hc] at g3
    obtain ⟨a1, a2, tc2, a4, a5⟩ := g3
    refine ⟨a1, a2, tc2, a4, ?_⟩
    rw [a5, bx_up_ne]
    intro hpq
    obtain ⟨e1, e2⟩ := hpq
    have e2 : q.1.2 = k := by omega
    unfold bx_keep at h2
    rw [Bool.or_eq_true, decide_eq_true_eq, Bool.or_eq_true] at h2
    rcases h2 with h2 | h2 | h2
    · exact hc h2
    · rw [e2, beq_self_eq_true] at h2
      exact Bool.false_ne_true h2
    · split at h2
      · rename_i d hd
        split at h2
        · rename_i ci3 tcs3 hk3
          have hin := bx_dm_ok hs hk hd
          obtain ⟨p1, p2, p3⟩ := hV.1 d q.1.1.2 _ hk3 _ hin
          have e3 : D.2.1.1 P = .inl (ci3, tcs3) := by
            rw [← e1]
            exact p3
          rw [hP] at e3
          cases e3
          rw [beq_self_eq_true] at h2
          exact Bool.false_ne_true h2
        · exact Bool.false_ne_true h2
      · exact Bool.false_ne_true h2
theorem bx_h_put_ok {fr : Nat → Option rx_Q} {dmf : Nat → Int → Bool} {md : Nat → Nat → Bool} {idx : Nat} {Ts : List Jvm.Cond} {own : String} (hexec : p.tables.exec = Jvm.exec) (hb : c.code = cc) (hts : ∀ w ∈ Ts, w.before args s = true) (hown : s.vm.findClass own = some m.cls) (hF : ∀ q, fr idx = some q → rx_Fok s args Ts own cl idx q) (hV : bx_VOK D.2.1 V) (hdm : dmf = D.2.1.2.2.2) (hmd : md = D.2.2.2) (hdg : decode cc (rx_zpc z) = .ok (.putfield idx, 3))
    (hR : rx_R D cl A s xa nL H0 z r ad H locs ls) (hz : bx_h_put V dmf md fr idx z = some zs)
    (K : ∀ z_p ∈ zs, rx_G p l e R s m args below meth c Q D cl A xa nL H0 z.1.length z.2.2.1.length r ad z_p) : W p l e R s m args below meth c H locs z.2.2.2.1 z.2.2.2.2.1 Q (F0 m (rx_zpc z) ls ((rx_zst z).map (rx_iv r ad xa))) := by
  subst hdm; subst hmd
  unfold bx_h_put at hz
  split at hz
  · rename_i v t q hv hq
    split at hz
    · rename_i e0 t2 he
      split at hz
      · rename_i d hd
        split at hz
        · rename_i ci tcs hk
          split at hz
          · rename_i ty hty
            split at hz
            · rename_i hc
              obtain ⟨c1, c2, c3, c4, c5, c6⟩ := hc
              split at hz
              case h_2 => cases hz
              rename_i ht3 hlog
              cases hz
              obtain ⟨S, ⟨ws, tys, hInv, hK, hP, hD, hl, hcell⟩, hS, hsm, hkn⟩ := id hR.2.2.2.1
              have hin := bx_dm_ok hR.1 hkn hd
              obtain ⟨p1, p2, p3⟩ := hV.1 d e0.2 _ hk _ hin
              obtain ⟨c0, hw, hce⟩ := hcell _ p2
              rw [p3] at hce
              obtain ⟨vs, hc0, hlen, hvs⟩ := hce
              subst hc0
              have hklt : q.2.1 < tcs.length := (List.getElem?_eq_some_iff.mp c3).1
              have hst := rx_stsc hR
              have et := bx_pp_ok he
              subst et
              rw [rx_pv_ok hv] at hst ⊢
              obtain ⟨n1, n2, n3⟩ := bx_fits_ok hR.1 hkn c6
              obtain ⟨C, T, N, fty, f1, f2, f3, f4, f5, f6, f7, f8, f9⟩ := hF q hq
              obtain ⟨n4, n5⟩ := n3 _ f6
              rw [← c1] at f1
              have hokT := hV.2.2.1 d e0.2 _ _ _ ty hty _ hin _ _ (Int.le_refl _) (Int.le_refl _) (Int.emod_one _) n2
              have hlt : e0.1 < z.1.length := hst _ (List.mem_cons_of_mem _ List.mem_cons_self)
              have hwlen : (r e0.1 + e0.2).toNat < ws.length := by rw [hl]; exact p2
              have kk : ∀ (H1 : Heap) (locs1 : List Loc), va_P D.1 cl (ws.set (r e0.1 + e0.2).toNat (ad (r e0.1 + e0.2).toNat, .inr (ci, vs.set q.2.1 (rx_iv r ad xa v)))) H1 → va_D A (ws.set (r e0.1 + e0.2).toNat (ad (r e0.1 + e0.2).toNat, .inr (ci, vs.set q.2.1 (rx_iv r ad xa v)))) → va_S A H0 H1 locs1 → W p l e R s m args below meth c H1 locs1 z.2.2.2.1 z.2.2.2.2.1 Q (F0 m (rx_zpc z + 3) ls (t2.map (rx_iv r ad xa))) := by
                intro H1 locs1 hP1 hD1 hS1
                have hkn2 : bx_kns D ad xa (bx_up S (r e0.1 + e0.2).toNat (q.2.1 : Int) (bx_num r v)) z.1.length (((e0, q.2.1), v) :: z.2.2.1.filter (bx_keep V z.2.2.1 q.2.1 ci)) r := fun y hy => by
                  rcases List.mem_cons.mp hy with h | h
                  · subst h
                    refine ⟨hlt, rx_sc.any (hst _ List.mem_cons_self), ?_⟩
                    unfold bx_kn
                    rw [if_neg (by dsimp only; omega)]
                    refine ⟨p1, p2, q.2.2.1, ?_, by rw [show (rx_ev r (e0, q.2.1).1) = r e0.1 + e0.2 from rfl, bx_up_at]; exact n1⟩
                    show bx_tcs (D.2.1.1 (r e0.1 + e0.2).toNat) q.2.1 = _
                    rw [p3]
                    exact c3
                  · exact bx_keep_ok hV hR.1 hkn p3 h
                obtain ⟨l1, l2⟩ := bx_logW_ok (S0 := D.2.2.1) hV hR.1 hkn2 (fun hl => bx_chain_skip (bx_notE (by show q.2.1 < 3000000; omega)) (bx_chain_filter (fun y hy => by
                  have := bx_isE_le hy
                  unfold bx_keep
                  rw [decide_eq_true (show 1000000 ≤ y.1.2 by omega), Bool.true_or]) (hsm.2 hl))) hlog (rx_sc.any (hst _ List.mem_cons_self)) hlt (rx_pos hR.1) (by rw [rx_ev0 hR.1]; rfl)
                refine rx_at (K _ List.mem_cons_self) rx_same.rf rx_sameA.rf (bx_R_nxh hR ⟨bx_up S (r e0.1 + e0.2).toNat (q.2.1 : Int) (bx_num r v), ⟨_, tys, ?_, hK, hP1, hD1, by rw [List.length_set]; exact hl, ?_⟩, hS1, ⟨?_, l2⟩, l1⟩ fun y hy => rx_sc.any (hst y (List.mem_cons_of_mem _ (List.mem_cons_of_mem _ hy)))) rfl rfl rfl rfl
                · intro p_p j_p hp_p hj_p
                  by_cases hpj : p_p = (r e0.1 + e0.2).toNat ∧ (j_p : Int) = (q.2.1 : Int)
                  · obtain ⟨h1, h2⟩ := hpj
                    subst h1
                    rw [h2, bx_up_at]
                    exact hokT
                  · rw [bx_up_ne hpj]
                    exact hInv p_p j_p hp_p hj_p
                · intro p_p hp_p
                  by_cases hpe : p_p = (r e0.1 + e0.2).toNat
                  · subst hpe
                    refine ⟨_, List.getElem?_set_self hwlen, ?_⟩
                    rw [p3]
                    refine ⟨_, rfl, by rw [List.length_set]; exact hlen, fun i tc hi => ?_⟩
                    by_cases hik : i = q.2.1
                    · subst hik
                      rw [c3] at hi
                      cases hi
                      rw [List.getElem?_set_self (by rw [hlen]; exact hklt), bx_up_at, n1]
                    · rw [List.getElem?_set_ne (Ne.symm hik), bx_up_ne (fun h => hik (by omega))]
                      exact hvs i tc hi
                  · obtain ⟨e1, h1, h2⟩ := hcell p_p hp_p
                    refine ⟨e1, by rw [List.getElem?_set_ne (Ne.symm hpe)]; exact h1, ?_⟩
                    rw [bx_up_row hpe]
                    exact h2
                · intro p_p i hp_p hi hmd
                  rw [bx_up_ne]
                  · exact hsm.1 p_p i hp_p hi hmd
                  · intro h
                    obtain ⟨h1, h2⟩ := h
                    have h3 : i = q.2.1 := by omega
                    rw [h1, p3, h3] at hmd
                    have hmd : D.2.2.2 ci q.2.1 = false := hmd
                    rw [c5] at hmd
                    exact Bool.false_ne_true hmd.symm
              rcases f9 with ⟨-, f9⟩ | ⟨-, host, f9⟩
              · exact va_put hexec hb hts f3 fty f4 f5 hown hK hP hD hS _ hw f1 q.2.1 f2 f9 (fun _ h => h) (by rw [f7]; exact c4) (f4 _ f2) n4 n5 (by rw [hlen]; exact hklt) hdg kk
              · exact va_putN hexec hb hts f3 fty f4 f5 hown hK hP hD hS _ hw f1 q.2.1 f2 f9 (fun _ h => h) (by rw [f7]; exact c4) (f4 _ f2) n4 n5 (by rw [hlen]; exact hklt) hdg kk
            · cases hz
          · cases hz
        · cases hz
      · cases hz
    · cases hz
  · cases hz
end BXO
end
section
noncomputable def rx_isTc (k : Nat) (tc : Nat) : Bool := tc == k
noncomputable def rx_isRef (tc : Nat) : Bool := decide (5 ≤ tc)
theorem rx_isTc_ok {k tc : Nat} (h : rx_isTc k tc = true) : tc = k := by
  unfold rx_isTc at h
  exact beq_iff_eq.mp h
theorem rx_isRef_ok {tc : Nat} (h : rx_isRef tc = true) : ∃ n, tc = n + 5 := by
  unfold rx_isRef at h
  rw [decide_eq_true_eq] at h
  exact ⟨tc - 5, by omega⟩
section BXA
variable {p : Program} {l : Launch} {e : Env} {R : Room} {s : State} {m : MethodId} {args : Array Value} {below : List Frame} {meth : Method} {c : Code} {Q : State → Prop}
variable {D : bx_D} {cl : List vw_C} {A : Nat → Prop} {xa : Nat → Nat} {nL : Nat} {H0 H : Heap} {locs : List Loc} {ls : Array Slot} {r : Nat → Int} {ad : Nat → Nat}
variable {cc : ByteArray} {z : rx_Z} {zs : List rx_Z} {V : bx_V}
theorem rx_ixIn {ix : rx_E} {I : rx_I} {lo hi : Int} {n : Nat} (h : rx_sat I r) (hb : rx_bi I ix = some (lo, hi)) (h0 : 0 ≤ lo) (hn : hi < (n : Int)) : vp_in (Int32.ofInt (rx_ev r ix)) n ∧ (Int32.ofInt (rx_ev r ix)).toNatClampNeg = (rx_ev r ix).toNat ∧ lo ≤ rx_ev r ix ∧ rx_ev r ix ≤ hi ∧ ix.1 < I.length := by
  obtain ⟨h1, h2, h3, h4⟩ := rx_bi_ok h hb
  refine ⟨vp_in_iff.mpr (by rw [h3]; omega), ?_, h1, h2, h4⟩
  show (Int32.ofInt (rx_ev r ix)).toInt.toNat = _
  rw [h3]
theorem bx_h_ald_ok {np : Nat} {md : Nat → Nat → Bool} {okc : Nat → Bool} (hV : bx_VOK D.2.1 V) (hnp : np = D.2.1.2.1) (hmd : md = D.2.2.2) (hR : rx_R D cl A s xa nL H0 z r ad H locs ls) (hz : bx_h_ald V np md okc z = some zs)
    (row : ∀ (ws : va_W) (tys : List (ClassId × FieldType)) (k n tc t0 : Nat) (cA : ClassId) (x : rx_cont) (i : Int32) (rest : List Value), okc tc = true → va_K D.1 cl tys s → va_P D.1 cl ws H → ws[k]? = some (ad k, .inl (cA, n, x)) → tys[t0]? = some (cA, rx_ty cl tc) → rx_sh tc x → vp_in i n →
      W p l e R s m args below meth c H locs z.2.2.2.1 z.2.2.2.2.1 Q (F0 m (rx_zpc z + 1) ls (rx_el x i.toNatClampNeg :: rest)) → W p l e R s m args below meth c H locs z.2.2.2.1 z.2.2.2.2.1 Q (F0 m (rx_zpc z) ls (.int i :: .ref (ad k) :: rest)))
    (K : ∀ z_p ∈ zs, rx_G p l e R s m args below meth c Q D cl A xa nL H0 z.1.length z.2.2.1.length r ad z_p) : W p l e R s m args below meth c H locs z.2.2.2.1 z.2.2.2.2.1 Q (F0 m (rx_zpc z) ls ((rx_zst z).map (rx_iv r ad xa))) := by
  subst hmd
  unfold bx_h_ald at hz
  split at hz
  case h_2 => cases hz
  rename_i ix t hix
  split at hz
  case h_2 => cases hz
  rename_i e0 t2 he
  split at hz
  case h_2 => cases hz
  rename_i d hd
  split at hz
  case h_2 => cases hz
  rename_i tc n g hk
  split at hz
  case isFalse => cases hz
  rename_i hokc
  split at hz
  case h_2 => cases hz
  rename_i lo hi hbi
  split at hz
  case isFalse => cases hz
  rename_i hrange
  obtain ⟨S, ⟨ws, tys, hInv, hK, hP, hD, hl, hcell⟩, hS, hsm, hkn⟩ := id hR.2.2.2.1
  have hin := bx_dm_ok hR.1 hkn hd
  obtain ⟨p1, p2, p3⟩ := hV.1 d e0.2 _ hk _ hin
  obtain ⟨c0, hw, hce⟩ := hcell _ p2
  rw [p3] at hce
  obtain ⟨cA, t0, x, hc0, htys, hsh, hel⟩ := hce
  subst hc0
  obtain ⟨i1, i2, i3, i4, i5⟩ := rx_ixIn hR.1 hbi hrange.1 hrange.2
  have hst := rx_stsc hR
  have et := bx_pp_ok he
  subst et
  rw [rx_pi_ok hix] at hst ⊢
  have hlt : e0.1 < z.1.length := hst _ (List.mem_cons_of_mem _ List.mem_cons_self)
  have hjn : (rx_ev r ix).toNat < n := by omega
  have hjz : (((rx_ev r ix).toNat : Nat) : Int) = rx_ev r ix := by omega
  have hwd : (rx_ev r ix).toNat < bx_wd (D.2.1.1 (r e0.1 + e0.2).toNat) := by
    rw [p3]
    exact hjn
  have hInvj := hInv _ _ p2 hwd
  rw [hjz] at hInvj
  have hx : rx_el x (rx_ev r ix).toNat = bx_fv ad tc (S (r e0.1 + e0.2).toNat (rx_ev r ix)) := by rw [hel _ hjn, hjz]
  split at hz
  · rename_i v hck
    cases hz
    unfold bx_ckr at hck
    split at hck
    case isFalse => cases hck
    rename_i hlh
    obtain ⟨k1, k2, k3⟩ := hkn _ (bx_ck_ok hck)
    unfold bx_kn at k3
    rw [if_neg (by dsimp only; omega)] at k3
    obtain ⟨-, -, tc2, g2, g3⟩ := k3
    have g2 : bx_tcs (D.2.1.1 (r e0.1 + e0.2).toNat) lo.toNat = some tc2 := g2
    rw [p3] at g2
    have g2 : (if lo.toNat < n then some tc else none) = some tc2 := g2
    rw [if_pos (by omega)] at g2
    cases g2
    have g3 : rx_iv r ad xa v = bx_fv ad tc (S (r e0.1 + e0.2).toNat (lo.toNat : Int)) := g3
    have elo : ((lo.toNat : Nat) : Int) = rx_ev r ix := by omega
    rw [elo] at g3
    refine row ws tys _ n tc t0 cA x _ _ hokc hK hP hw htys hsh i1 ?_
    rw [i2, hx]
    refine rx_at (K _ List.mem_cons_self) rx_same.rf rx_sameA.rf (rx_R_nx hR fun y hy => ?_) rfl rfl rfl ?_
    · rcases List.mem_cons.mp hy with h | h
      · subst h; exact rx_sc.any k2
      · exact hst y (List.mem_cons_of_mem _ (List.mem_cons_of_mem _ h))
    · show rx_iv r ad xa v :: t2.map (rx_iv r ad xa) = _
      rw [g3]
  · split at hz
    case h_2 => cases hz
    rename_i ty hty
    split at hz
    case h_2 => cases hz
    rename_i I2 ht2 v hnv
    split at hz
    case h_2 => cases hz
    rename_i ht3 hlog
    cases hz
    obtain ⟨t1, t3⟩ := bx_str_ok hR.2.1 i3
    obtain ⟨r_p, q1, q2, q3, q4, q5, q6, q7, q8⟩ := bx_nv_ok (w := S (r e0.1 + e0.2).toNat (rx_ev r ix)) hV hnp hR.1 hlt hkn hnv (hV.2.1 d e0.2 _ _ _ ty hty _ hin _ _ t1 i4 t3 hInvj)
    have hev : rx_ev r_p e0 = r e0.1 + e0.2 := rx_ev_ext hlt q1
    have hevi : rx_ev r_p ix = rx_ev r ix := rx_ev_ext i5 q1
    have hkc : bx_kns D ad xa S I2.length (bx_kc e0 lo hi v ht2) r_p ∧ (bx_lg D.2.2.2 = true → bx_chain D.2.1 I2.length r_p D.2.2.1 (bx_kc e0 lo hi v ht2) S) := by
      unfold bx_kc
      split
      · rename_i hlh
        refine ⟨fun y hy => ?_, fun hl => bx_chain_skip (bx_notE (by show lo.toNat < 3000000; omega)) (q8 _ (hsm.2 hl))⟩
        rcases List.mem_cons.mp hy with h | h
        · subst h
          refine ⟨Nat.lt_of_lt_of_le hlt q3, q4, ?_⟩
          unfold bx_kn
          rw [if_neg (by dsimp only; omega)]
          show 0 ≤ rx_ev r_p e0 ∧ (rx_ev r_p e0).toNat < D.2.1.2.1 ∧ ∃ tc : Nat, bx_tcs (D.2.1.1 (rx_ev r_p e0).toNat) lo.toNat = some tc ∧ rx_iv r_p ad xa v = bx_fv ad tc (S (rx_ev r_p e0).toNat (lo.toNat : Int))
          rw [hev, p3, show ((lo.toNat : Nat) : Int) = rx_ev r ix by omega]
          refine ⟨p1, p2, tc, ?_, q6⟩
          show (if lo.toNat < n then some tc else none) = some tc
          rw [if_pos (by omega)]
        · exact q5 y h
      · exact ⟨q5, fun hl => q8 _ (hsm.2 hl)⟩
    obtain ⟨l1, l2⟩ := bx_logR_ok (S0 := D.2.2.1) hV q2 hkc.1 hkc.2 hlog q4 (Nat.lt_of_lt_of_le hlt q3) (Nat.lt_of_lt_of_le i5 q3) (by
      rw [hev, hevi, q7])
    refine row ws tys _ n tc t0 cA x _ _ hokc hK hP hw htys hsh i1 ?_
    rw [i2, hx]
    refine rx_at (K _ List.mem_cons_self) q1 rx_sameA.rf (bx_R_nxk hR q3 q1 q2 ⟨S, ⟨ws, tys, hInv, hK, hP, hD, hl, hcell⟩, hS, ⟨hsm.1, l2⟩, l1⟩ fun y hy => ?_) rfl rfl rfl ?_ q3
    · rcases List.mem_cons.mp hy with h | h
      · subst h; exact q4
      · exact rx_sc.any (rx_sc.mono (M_p := 0) (hst y (List.mem_cons_of_mem _ (List.mem_cons_of_mem _ h))) q3 trivial)
    · show rx_iv r_p ad xa v :: t2.map (rx_iv r_p ad xa) = _
      rw [q6, rx_st_ext (fun y hy => hst y (List.mem_cons_of_mem _ (List.mem_cons_of_mem _ hy))) q1 rx_sameA.rf]
theorem bx_keepR_ok {S : Nat → Int → Int} {ht : List rx_C} {N P g tc n : Nat} {lo hi j w : Int} {I : rx_I} {q : rx_C} (hV : bx_VOK D.2.1 V) (hs : rx_sat I r) (hk : bx_kns D ad xa S N ht r) (hP : D.2.1.1 P = .inr (tc, n, g)) (h1 : lo ≤ j) (h2 : j ≤ hi) (hq : q ∈ ht.filter (bx_keepR V ht lo hi g)) : q.1.1.1 < N ∧ rx_sc N 0 q.2 ∧ bx_kn D.2.1 ad xa (bx_up S P j w) r q := by
  obtain ⟨k1, k2⟩ := List.mem_filter.mp hq
  obtain ⟨g1, g2, g3⟩ := hk q k1
  refine ⟨g1, g2, ?_⟩
  unfold bx_kn at g3 ⊢
  split
  · rename_i hc
    rw [if_pos hc] at g3
    exact g3
  · rename_i hc
    rw [if_neg hc] at g3
    obtain ⟨a1, a2, tc2, a4, a5⟩ := g3
    refine ⟨a1, a2, tc2, a4, ?_⟩
    rw [a5, bx_up_ne]
    intro hpq
    obtain ⟨e1, e2⟩ := hpq
    unfold bx_keepR at k2
    rw [Bool.or_eq_true, Bool.or_eq_true, Bool.or_eq_true, decide_eq_true_eq, decide_eq_true_eq, decide_eq_true_eq] at k2
    rcases k2 with k2 | k2 | k2 | k2
    · exact hc k2
    · omega
    · omega
    · split at k2
      case h_2 => exact Bool.false_ne_true k2
      rename_i d hd
      have hin := bx_dm_ok hs hk hd
      split at k2
      · rename_i x hk3
        obtain ⟨-, -, p3⟩ := hV.1 d q.1.1.2 _ hk3 _ hin
        have e3 : D.2.1.1 P = .inl x := by
          rw [← e1]
          exact p3
        rw [hP] at e3
        cases e3
      · rename_i tc3 n3 g4 hk3
        obtain ⟨-, -, p3⟩ := hV.1 d q.1.1.2 _ hk3 _ hin
        have e3 : D.2.1.1 P = .inr (tc3, n3, g4) := by
          rw [← e1]
          exact p3
        rw [hP] at e3
        cases e3
        rw [beq_self_eq_true] at k2
        exact Bool.false_ne_true k2
      · exact Bool.false_ne_true k2
theorem bx_h_ast_ok {dmf : Nat → Int → Bool} {md : Nat → Nat → Bool} {okc : Nat → Bool} (hV : bx_VOK D.2.1 V) (hdm : dmf = D.2.1.2.2.2) (hmd : md = D.2.2.2) (hR : rx_R D cl A s xa nL H0 z r ad H locs ls) (hz : bx_h_ast V dmf md okc z = some zs)
    (row : ∀ (ws : va_W) (tys : List (ClassId × FieldType)) (k n tc t0 : Nat) (cA : ClassId) (x : rx_cont) (i : Int32) (v : rx_V) (ty : FieldType) (rest : List Value), okc tc = true → (rx_iv r ad xa v = bx_fv ad tc (bx_num r v) ∧ ∀ ty : FieldType, rx_tyc ty = tc → narrow ty (rx_iv r ad xa v) = rx_iv r ad xa v) → va_K D.1 cl tys s → va_P D.1 cl ws H → va_D A ws → va_S A H0 H locs → ws[k]? = some (ad k, .inl (cA, n, x)) → tys[t0]? = some (cA, rx_ty cl tc) → rx_sh tc x → vp_in i n →
      (∀ (x_p : rx_cont) (H1 : Heap) (locs1 : List Loc), rx_sh tc x_p → (∀ j : Nat, rx_el x_p j = if j = i.toNatClampNeg then rx_iv r ad xa v else rx_el x j) → va_P D.1 cl (ws.set k (ad k, .inl (cA, n, x_p))) H1 → va_D A (ws.set k (ad k, .inl (cA, n, x_p))) → va_S A H0 H1 locs1 → W p l e R s m args below meth c H1 locs1 z.2.2.2.1 z.2.2.2.2.1 Q (F0 m (rx_zpc z + 1) ls rest)) →
      W p l e R s m args below meth c H locs z.2.2.2.1 z.2.2.2.2.1 Q (F0 m (rx_zpc z) ls (rx_iv r ad xa v :: .int i :: .ref (ad k) :: rest)))
    (K : ∀ z_p ∈ zs, rx_G p l e R s m args below meth c Q D cl A xa nL H0 z.1.length z.2.2.1.length r ad z_p) : W p l e R s m args below meth c H locs z.2.2.2.1 z.2.2.2.2.1 Q (F0 m (rx_zpc z) ls ((rx_zst z).map (rx_iv r ad xa))) := by
  subst hdm; subst hmd
  unfold bx_h_ast at hz
  split at hz
  case h_2 => cases hz
  rename_i v t0_p hv
  split at hz
  case h_2 => cases hz
  rename_i ix t hix
  split at hz
  case h_2 => cases hz
  rename_i e0 t2 he
  split at hz
  case h_2 => cases hz
  rename_i d hd
  split at hz
  case h_2 => cases hz
  rename_i tc n g hk
  split at hz
  case h_2 => cases hz
  rename_i lo hi hbi
  split at hz
  case h_2 => cases hz
  rename_i ty hty
  split at hz
  case isFalse => cases hz
  rename_i hc
  obtain ⟨c1, c2, c3, c4, c5, c6⟩ := hc
  split at hz
  case h_2 => cases hz
  rename_i ht3 hlog
  cases hz
  obtain ⟨S, ⟨ws, tys, hInv, hK, hP, hD, hl, hcell⟩, hS, hsm, hkn⟩ := id hR.2.2.2.1
  have hin := bx_dm_ok hR.1 hkn hd
  obtain ⟨p1, p2, p3⟩ := hV.1 d e0.2 _ hk _ hin
  obtain ⟨c0, hw, hce⟩ := hcell _ p2
  rw [p3] at hce
  obtain ⟨cA, t0, x, hc0, htys, hsh, hel⟩ := hce
  subst hc0
  obtain ⟨i1, i2, i3, i4, i5⟩ := rx_ixIn hR.1 hbi c3 c4
  have hst := rx_stsc hR
  have et := bx_pp_ok he
  subst et
  have et2 := rx_pi_ok hix
  subst et2
  rw [rx_pv_ok hv] at hst ⊢
  have hvsc : rx_sc z.1.length 0 v := rx_sc.any (hst _ List.mem_cons_self)
  have hlt : e0.1 < z.1.length := hst _ (List.mem_cons_of_mem _ (List.mem_cons_of_mem _ List.mem_cons_self))
  have hjn : (rx_ev r ix).toNat < n := by omega
  have hjz : (((rx_ev r ix).toNat : Nat) : Int) = rx_ev r ix := by omega
  obtain ⟨t1, t3⟩ := bx_str_ok hR.2.1 i3
  obtain ⟨n1, n2, n3⟩ := bx_fits_ok hR.1 hkn c5
  have hokT := hV.2.2.1 d e0.2 _ _ _ ty hty _ hin _ _ t1 i4 t3 n2
  have hwlen : (r e0.1 + e0.2).toNat < ws.length := by rw [hl]; exact p2
  have hkf : bx_kns D ad xa (bx_up S (r e0.1 + e0.2).toNat (rx_ev r ix) (bx_num r v)) z.1.length (z.2.2.1.filter (bx_keepR V z.2.2.1 lo hi g)) r := fun y hy => bx_keepR_ok hV hR.1 hkn p3 i3 i4 hy
  have hcf : bx_lg D.2.2.2 = true → bx_chain D.2.1 z.1.length r D.2.2.1 (z.2.2.1.filter (bx_keepR V z.2.2.1 lo hi g)) S := fun hl => bx_chain_filter (fun y hy => by
    have := bx_isE_le hy
    unfold bx_keepR
    rw [decide_eq_true (show 1000000 ≤ y.1.2 by omega), Bool.true_or]) (hsm.2 hl)
  have hkc : bx_kns D ad xa (bx_up S (r e0.1 + e0.2).toNat (rx_ev r ix) (bx_num r v)) z.1.length (bx_kc e0 lo hi v (z.2.2.1.filter (bx_keepR V z.2.2.1 lo hi g))) r ∧ (bx_lg D.2.2.2 = true → bx_chain D.2.1 z.1.length r D.2.2.1 (bx_kc e0 lo hi v (z.2.2.1.filter (bx_keepR V z.2.2.1 lo hi g))) S) := by
    unfold bx_kc
    split
    · rename_i hlh
      refine ⟨fun y hy => ?_, fun hl => bx_chain_skip (bx_notE (by show lo.toNat < 3000000; omega)) (hcf hl)⟩
      rcases List.mem_cons.mp hy with h | h
      · subst h
        refine ⟨hlt, hvsc, ?_⟩
        unfold bx_kn
        rw [if_neg (by dsimp only; omega)]
        show 0 ≤ r e0.1 + e0.2 ∧ (r e0.1 + e0.2).toNat < D.2.1.2.1 ∧ ∃ tc : Nat, bx_tcs (D.2.1.1 (r e0.1 + e0.2).toNat) lo.toNat = some tc ∧ rx_iv r ad xa v = bx_fv ad tc (bx_up S (r e0.1 + e0.2).toNat (rx_ev r ix) (bx_num r v) (r e0.1 + e0.2).toNat (lo.toNat : Int))
        rw [p3, show ((lo.toNat : Nat) : Int) = rx_ev r ix by omega, bx_up_at]
        refine ⟨p1, p2, tc, ?_, n1⟩
        show (if lo.toNat < n then some tc else none) = some tc
        rw [if_pos (by omega)]
      · exact hkf y h
    · exact ⟨hkf, hcf⟩
  obtain ⟨l1, l2⟩ := bx_logW_ok (S := bx_up S (r e0.1 + e0.2).toNat (rx_ev r ix) (bx_num r v)) (S0 := D.2.2.1) hV hR.1 hkc.1 hkc.2 hlog hvsc hlt i5 rfl
  refine row ws tys _ n tc t0 cA x _ v .int _ c1 ⟨n1, fun ty hty => (n3 ty hty).1⟩ hK hP hD hS hw htys hsh i1 fun x_p H1 locs1 hsh1 hel1 hP1 hD1 hS1 => ?_
  refine rx_at (K _ List.mem_cons_self) rx_same.rf rx_sameA.rf (bx_R_nxh hR ⟨bx_up S (r e0.1 + e0.2).toNat (rx_ev r ix) (bx_num r v), ⟨_, tys, ?_, hK, hP1, hD1, by rw [List.length_set]; exact hl, ?_⟩, hS1, ⟨?_, l2⟩, l1⟩ fun y hy => rx_sc.any (hst y (List.mem_cons_of_mem _ (List.mem_cons_of_mem _ (List.mem_cons_of_mem _ hy))))) rfl rfl rfl rfl
  · intro p_p j_p hp_p hj_p
    by_cases hpj : p_p = (r e0.1 + e0.2).toNat ∧ (j_p : Int) = rx_ev r ix
    · obtain ⟨h1, h2⟩ := hpj
      subst h1
      rw [h2, bx_up_at]
      exact hokT
    · rw [bx_up_ne hpj]
      exact hInv p_p j_p hp_p hj_p
  · intro p_p hp_p
    by_cases hpe : p_p = (r e0.1 + e0.2).toNat
    · subst hpe
      refine ⟨_, List.getElem?_set_self hwlen, ?_⟩
      rw [p3]
      refine ⟨cA, t0, x_p, rfl, htys, hsh1, fun j hj => ?_⟩
      rw [hel1 j, i2]
      by_cases hji : j = (rx_ev r ix).toNat
      · rw [if_pos hji, hji, hjz, bx_up_at, n1]
      · rw [if_neg hji, bx_up_ne (fun h => hji (by omega))]
        exact hel j hj
    · obtain ⟨e1, h1, h2⟩ := hcell p_p hp_p
      refine ⟨e1, by
        show (ws.set (r e0.1 + e0.2).toNat _)[p_p]? = _
        rw [List.getElem?_set_ne (Ne.symm hpe)]
        exact h1, ?_⟩
      rw [bx_up_row hpe]
      exact h2
  · intro p_p i hp_p hi hmd
    rw [bx_up_ne]
    · exact hsm.1 p_p i hp_p hi hmd
    · intro h
      rw [h.1, p3] at hmd
      have hmd : D.2.2.2 (1000 + g) (bx_sk g i) = false := hmd
      rw [bx_mdr_ok c6 (by omega) (by omega)] at hmd
      exact Bool.false_ne_true hmd.symm
theorem bx_alen_ok (hexec : p.tables.exec = Jvm.exec) (hb : c.code = cc) (hV : bx_VOK D.2.1 V) (hdg : decode cc (rx_zpc z) = .ok (.arraylength, 1)) (hR : rx_R D cl A s xa nL H0 z r ad H locs ls) (hz : bx_h_alen V z = some zs)
    (K : ∀ z_p ∈ zs, rx_G p l e R s m args below meth c Q D cl A xa nL H0 z.1.length z.2.2.1.length r ad z_p) : W p l e R s m args below meth c H locs z.2.2.2.1 z.2.2.2.2.1 Q (F0 m (rx_zpc z) ls ((rx_zst z).map (rx_iv r ad xa))) := by
  unfold bx_h_alen at hz
  split at hz
  · rename_i e0 t he
    split at hz
    · rename_i d hd
      split at hz
      · rename_i tc n g hk
        cases hz
        obtain ⟨S, ⟨ws, tys, hInv, hK, hP, hD, hl, hcell⟩, hS, hsm, hkn⟩ := id hR.2.2.2.1
        have hin := bx_dm_ok hR.1 hkn hd
        obtain ⟨p1, p2, p3⟩ := hV.1 d e0.2 _ hk _ hin
        obtain ⟨c0, hw, hce⟩ := hcell _ p2
        rw [p3] at hce
        obtain ⟨cA, t0, x, hc0, htys, hsh, hel⟩ := hce
        subst hc0
        have hst := rx_stsc hR
        rw [bx_pp_ok he] at hst ⊢
        refine va_alen (v := Int32.ofInt (n : Int)) hexec hb hK hP _ t0 hw htys (by rw [Int32.ofInt_eq_ofNat]) hdg ?_
        refine rx_at (K _ List.mem_cons_self) rx_same.rf rx_sameA.rf (rx_R_nx hR fun y hy => ?_) rfl rfl rfl ?_
        · rcases List.mem_cons.mp hy with h | h
          · subst h; exact rx_sc0 hR 0 _
          · exact hst y (List.mem_cons_of_mem _ h)
        · show rx_iv r ad xa (rx_n (n : Int)) :: _ = _
          rw [rx_n_iv hR.1]
      · cases hz
    · cases hz
  · cases hz
theorem bx_iald {np : Nat} {md : Nat → Nat → Bool} (hexec : p.tables.exec = Jvm.exec) (hb : c.code = cc) (hV : bx_VOK D.2.1 V) (hnp : np = D.2.1.2.1) (hmd : md = D.2.2.2) (hdg : decode cc (rx_zpc z) = .ok (.iaload, 1)) (hR : rx_R D cl A s xa nL H0 z r ad H locs ls) (hz : bx_h_ald V np md (rx_isTc 0) z = some zs)
    (K : ∀ z_p ∈ zs, rx_G p l e R s m args below meth c Q D cl A xa nL H0 z.1.length z.2.2.1.length r ad z_p) : W p l e R s m args below meth c H locs z.2.2.2.1 z.2.2.2.2.1 Q (F0 m (rx_zpc z) ls ((rx_zst z).map (rx_iv r ad xa))) := by
  refine bx_h_ald_ok hV hnp hmd hR hz (fun ws tys k n tc t0 cA x i rest hok hK hP hw ht hsh hin kk => ?_) K
  have h0 := rx_isTc_ok hok
  subst h0
  obtain ⟨f, hf⟩ := hsh
  subst hf
  exact va_iald hexec hb hK hP k t0 hw ht hin hdg kk
theorem bx_zald {np : Nat} {md : Nat → Nat → Bool} (hexec : p.tables.exec = Jvm.exec) (hb : c.code = cc) (hV : bx_VOK D.2.1 V) (hnp : np = D.2.1.2.1) (hmd : md = D.2.2.2) (hdg : decode cc (rx_zpc z) = .ok (.baload, 1)) (hR : rx_R D cl A s xa nL H0 z r ad H locs ls) (hz : bx_h_ald V np md (rx_isTc 1) z = some zs)
    (K : ∀ z_p ∈ zs, rx_G p l e R s m args below meth c Q D cl A xa nL H0 z.1.length z.2.2.1.length r ad z_p) : W p l e R s m args below meth c H locs z.2.2.2.1 z.2.2.2.2.1 Q (F0 m (rx_zpc z) ls ((rx_zst z).map (rx_iv r ad xa))) := by
  refine bx_h_ald_ok hV hnp hmd hR hz (fun ws tys k n tc t0 cA x i rest hok hK hP hw ht hsh hin kk => ?_) K
  have h0 := rx_isTc_ok hok
  subst h0
  obtain ⟨f, hf⟩ := hsh
  subst hf
  exact va_zald hexec hb hK hP k t0 hw ht hin hdg kk
theorem bx_lald {np : Nat} {md : Nat → Nat → Bool} (hexec : p.tables.exec = Jvm.exec) (hb : c.code = cc) (hV : bx_VOK D.2.1 V) (hnp : np = D.2.1.2.1) (hmd : md = D.2.2.2) (hdg : decode cc (rx_zpc z) = .ok (.laload, 1)) (hR : rx_R D cl A s xa nL H0 z r ad H locs ls) (hz : bx_h_ald V np md (rx_isTc 2) z = some zs)
    (K : ∀ z_p ∈ zs, rx_G p l e R s m args below meth c Q D cl A xa nL H0 z.1.length z.2.2.1.length r ad z_p) : W p l e R s m args below meth c H locs z.2.2.2.1 z.2.2.2.2.1 Q (F0 m (rx_zpc z) ls ((rx_zst z).map (rx_iv r ad xa))) := by
  refine bx_h_ald_ok hV hnp hmd hR hz (fun ws tys k n tc t0 cA x i rest hok hK hP hw ht hsh hin kk => ?_) K
  have h0 := rx_isTc_ok hok
  subst h0
  obtain ⟨f, hf⟩ := hsh
  subst hf
  exact va_lald hexec hb hK hP k t0 hw ht hin hdg kk
theorem bx_aald {np : Nat} {md : Nat → Nat → Bool} (hexec : p.tables.exec = Jvm.exec) (hb : c.code = cc) (hV : bx_VOK D.2.1 V) (hnp : np = D.2.1.2.1) (hmd : md = D.2.2.2) (hdg : decode cc (rx_zpc z) = .ok (.aaload, 1)) (hR : rx_R D cl A s xa nL H0 z r ad H locs ls) (hz : bx_h_ald V np md rx_isRef z = some zs)
    (K : ∀ z_p ∈ zs, rx_G p l e R s m args below meth c Q D cl A xa nL H0 z.1.length z.2.2.1.length r ad z_p) : W p l e R s m args below meth c H locs z.2.2.2.1 z.2.2.2.2.1 Q (F0 m (rx_zpc z) ls ((rx_zst z).map (rx_iv r ad xa))) := by
  refine bx_h_ald_ok hV hnp hmd hR hz (fun ws tys k n tc t0 cA x i rest hok hK hP hw ht hsh hin kk => ?_) K
  obtain ⟨q, h0⟩ := rx_isRef_ok hok
  subst h0
  obtain ⟨f, hf⟩ := hsh
  subst hf
  exact va_aldq hexec hb hK hP k t0 hw ht hin hdg kk
theorem bx_fv_int {v : rx_V} {w : Int} (h : rx_iv r ad xa v = bx_fv ad 0 w) : ∃ x : Int32, rx_iv r ad xa v = .int x := ⟨_, h⟩
theorem bx_iast {dmf : Nat → Int → Bool} {md : Nat → Nat → Bool} (hexec : p.tables.exec = Jvm.exec) (hb : c.code = cc) (hV : bx_VOK D.2.1 V) (hdm : dmf = D.2.1.2.2.2) (hmd : md = D.2.2.2) (hdg : decode cc (rx_zpc z) = .ok (.iastore, 1)) (hR : rx_R D cl A s xa nL H0 z r ad H locs ls) (hz : bx_h_ast V dmf md (rx_isTc 0) z = some zs)
    (K : ∀ z_p ∈ zs, rx_G p l e R s m args below meth c Q D cl A xa nL H0 z.1.length z.2.2.1.length r ad z_p) : W p l e R s m args below meth c H locs z.2.2.2.1 z.2.2.2.2.1 Q (F0 m (rx_zpc z) ls ((rx_zst z).map (rx_iv r ad xa))) := by
  refine bx_h_ast_ok hV hdm hmd hR hz (fun ws tys k n tc t0 cA x i v ty rest hok hov hK hP hD hS hw ht hsh hin kk => ?_) K
  have h0 := rx_isTc_ok hok
  subst h0
  obtain ⟨f, hf⟩ := hsh
  subst hf
  obtain ⟨y, hy⟩ := bx_fv_int hov.1
  rw [hy] at kk ⊢
  refine va_iast hexec hb hK hP hD hS k t0 hw ht hin hdg fun H1 locs1 hP1 hD1 hS1 => kk (.inl _) H1 locs1 ⟨_, rfl⟩ (fun j => ?_) hP1 hD1 hS1
  show Value.int (upd f i.toNatClampNeg y j) = _
  unfold upd
  by_cases hj : j = i.toNatClampNeg
  · rw [if_pos hj, if_pos hj]
  · rw [if_neg hj, if_neg hj]; rfl
theorem bx_zast {dmf : Nat → Int → Bool} {md : Nat → Nat → Bool} (hexec : p.tables.exec = Jvm.exec) (hb : c.code = cc) (hV : bx_VOK D.2.1 V) (hdm : dmf = D.2.1.2.2.2) (hmd : md = D.2.2.2) (hdg : decode cc (rx_zpc z) = .ok (.bastore, 1)) (hR : rx_R D cl A s xa nL H0 z r ad H locs ls) (hz : bx_h_ast V dmf md (rx_isTc 1) z = some zs)
    (K : ∀ z_p ∈ zs, rx_G p l e R s m args below meth c Q D cl A xa nL H0 z.1.length z.2.2.1.length r ad z_p) : W p l e R s m args below meth c H locs z.2.2.2.1 z.2.2.2.2.1 Q (F0 m (rx_zpc z) ls ((rx_zst z).map (rx_iv r ad xa))) := by
  refine bx_h_ast_ok hV hdm hmd hR hz (fun ws tys k n tc t0 cA x i v ty rest hok hov hK hP hD hS hw ht hsh hin kk => ?_) K
  have h0 := rx_isTc_ok hok
  subst h0
  obtain ⟨f, hf⟩ := hsh
  subst hf
  obtain ⟨y, hy⟩ : ∃ x : Int32, rx_iv r ad xa v = .int x := ⟨_, hov.1⟩
  have hn := hov.2 .boolean rfl
  rw [hy] at kk hn ⊢
  have hnar : vp_nar .boolean y = y := by
    unfold vp_nar
    rw [hn]
  refine va_zast hexec hb hK hP hD hS k t0 hw ht hin hdg fun H1 locs1 hP1 hD1 hS1 => kk (.inl _) H1 locs1 ⟨_, rfl⟩ (fun j => ?_) hP1 hD1 hS1
  show Value.int (upd f i.toNatClampNeg (vp_nar .boolean y) j) = _
  rw [hnar]
  unfold upd
  by_cases hj : j = i.toNatClampNeg
  · rw [if_pos hj, if_pos hj]
  · rw [if_neg hj, if_neg hj]; rfl
theorem bx_last {dmf : Nat → Int → Bool} {md : Nat → Nat → Bool} (hexec : p.tables.exec = Jvm.exec) (hb : c.code = cc) (hV : bx_VOK D.2.1 V) (hdm : dmf = D.2.1.2.2.2) (hmd : md = D.2.2.2) (hdg : decode cc (rx_zpc z) = .ok (.lastore, 1)) (hR : rx_R D cl A s xa nL H0 z r ad H locs ls) (hz : bx_h_ast V dmf md (rx_isTc 2) z = some zs)
    (K : ∀ z_p ∈ zs, rx_G p l e R s m args below meth c Q D cl A xa nL H0 z.1.length z.2.2.1.length r ad z_p) : W p l e R s m args below meth c H locs z.2.2.2.1 z.2.2.2.2.1 Q (F0 m (rx_zpc z) ls ((rx_zst z).map (rx_iv r ad xa))) := by
  refine bx_h_ast_ok hV hdm hmd hR hz (fun ws tys k n tc t0 cA x i v ty rest hok hov hK hP hD hS hw ht hsh hin kk => ?_) K
  have h0 := rx_isTc_ok hok
  subst h0
  obtain ⟨f, hf⟩ := hsh
  subst hf
  obtain ⟨y, hy⟩ : ∃ x : Int64, rx_iv r ad xa v = .long x := ⟨_, hov.1⟩
  rw [hy] at kk ⊢
  refine va_last hexec hb hK hP hD hS k t0 hw ht hin hdg fun H1 locs1 hP1 hD1 hS1 => kk (.inr (.inl _)) H1 locs1 ⟨_, rfl⟩ (fun j => ?_) hP1 hD1 hS1
  show Value.long (vp_updL f i.toNatClampNeg y j) = _
  unfold vp_updL
  by_cases hj : j = i.toNatClampNeg
  · rw [if_pos hj, if_pos hj]
  · rw [if_neg hj, if_neg hj]; rfl
end BXA
end
section
noncomputable abbrev rx_Mt : Type := Nat × ByteArray × Nat × Option FieldType × MethodName × Bool × Nat × Nat
noncomputable abbrev rx_J : Type := Nat × Nat × Nat × Nat
noncomputable abbrev rx_Tb : Type := (Nat → Nat → Option rx_Q) × (Nat → Nat → Option (Nat × List Nat)) × (Nat → Nat → Option Nat) × (Nat → Nat → Option rx_V) × (Nat → Nat → Option rx_J) × (Nat → Option rx_Mt)
noncomputable def rx_if {α : Type} (b : Bool) (x : Option α) : Option α := match b with
  | true => x
  | false => none
theorem rx_if_ok {α : Type} {b : Bool} {x : Option α} {y : α} (h : rx_if b x = some y) : b = true ∧ x = some y := by
  cases b with
  | true => exact ⟨rfl, h⟩
  | false => exact absurd (show (none : Option α) = some y from h) (fun q => by cases q)
theorem rx_ifn {α : Type} {a b : Nat} {x : Option α} {y : α} (h : rx_if (a == b) x = some y) : a = b ∧ x = some y := ⟨beq_iff_eq.mp (rx_if_ok h).1, (rx_if_ok h).2⟩
noncomputable def rx_or {α : Type} (x y : Option α) : Option α := match x with
  | some a => some a
  | none => y
theorem rx_or_ok {α : Type} {x y : Option α} {a : α} (h : rx_or x y = some a) : x = some a ∨ y = some a := by
  cases x with
  | some b => exact Or.inl h
  | none => exact Or.inr h
noncomputable def rx_h_const (kc : Nat → Nat → Option rx_V) (o idx kd d : Nat) (z : rx_Z) : Option (List rx_Z) := match kc o idx with
  | some (.inr (k, (0, n))) => rx_if (k == kd) (rx_h_push (.inr (k, (0, n))) d z)
  | _ => none
noncomputable def rx_tcase (z : rx_Z) (a : rx_E) (t : List rx_V) (lo al ah : Int) (offs : Array Int) (j : Nat) : List rx_Z :=
  if al ≤ lo + (j : Int) ∧ lo + (j : Int) ≤ ah then rx_way z (2, a, (0, lo + (j : Int))) ((rx_zpc z : Int) + offs.getD j 0).toNat t else []
noncomputable def rx_h_table (dflt lo hi : Int) (offs : Array Int) (z : rx_Z) : Option (List rx_Z) := match rx_pi (rx_zst z), rx_off (rx_zpc z) dflt with
  | some (a, t), some dt => match rx_bi z.1 a with
    | some (al, ah) => if (offs.size : Int) = hi - lo + 1 ∧ offs.toList.all (fun o => decide (0 ≤ (rx_zpc z : Int) + o)) = true ∧ lo ≤ hi + 1 then
        some ((List.range offs.size).flatMap (rx_tcase z (rx_nm z.1 a) t lo al ah offs) ++ ((if al < lo then rx_way z (0, rx_nm z.1 a, (0, lo)) dt t else []) ++ (if hi < ah then rx_way z (0, (0, hi), rx_nm z.1 a) dt t else [])))
      else none
    | none => none
  | _, _ => none
noncomputable def rx_h_look (dflt : Int) (ps : Array (Int × Int)) (z : rx_Z) : Option (List rx_Z) := match rx_pi (rx_zst z), rx_off (rx_zpc z) dflt with
  | some (a, t), some dt => match rx_bi z.1 a with
    | some _ => rx_if ((ps.toList.zip (ps.toList.drop 1)).all (fun (a, next) => a.1 < next.1) && ps.toList.all (fun q => decide (0 ≤ (rx_zpc z : Int) + q.2)))
        (some (ps.toList.flatMap (fun q => rx_way z (2, rx_nm z.1 a, (0, q.1)) ((rx_zpc z : Int) + q.2).toNat t) ++ [rx_jp z.1 z.2.1 z dt t]))
    | none => none
  | _, _ => none
theorem rx_look_mem : ∀ (l : List (Int × Int)) (dflt k : Int), (∃ q ∈ l, q.1 = k ∧ Op.lookupswitch.offset l dflt k = q.2) ∨ Op.lookupswitch.offset l dflt k = dflt
  | [], dflt, k => Or.inr rfl
  | q :: l, dflt, k => by
    obtain ⟨a, o⟩ := q
    rw [Op.lookupswitch.offset_cons]
    by_cases h : a = k
    · rw [if_pos h]
      exact Or.inl ⟨(a, o), List.mem_cons_self, h, rfl⟩
    · rw [if_neg h]
      rcases rx_look_mem l dflt k with ⟨q, h1, h2⟩ | h1
      · exact Or.inl ⟨q, List.mem_cons_of_mem _ h1, h2⟩
      · exact Or.inr h1
noncomputable def rx_h_l2i (z : rx_Z) : Option (List rx_Z) := match rx_pl (rx_zst z) with
  | some (a, t) => match rx_bi z.1 a with
    | some _ => some [rx_nx z 1 (.inr (0, a) :: t)]
    | none => some [rx_nxI (z.1 ++ [(-2147483648, 2147483647)]) z 1 (.inr (0, (z.1.length, 0)) :: t)]
  | none => none
noncomputable def rx_h_lsh (z : rx_Z) : Option (List rx_Z) := match rx_pi (rx_zst z) with
  | some (_, t) => match rx_pl t with
    | some (_, t) => some [rx_nxI (z.1 ++ [(-9223372036854775808, 9223372036854775807)]) z 1 (.inr (1, (z.1.length, 0)) :: t)]
    | none => none
  | none => none
noncomputable def rx_h_pop2 (z : rx_Z) : Option (List rx_Z) := match rx_pl (rx_zst z) with
  | some (_, t) => some [rx_nx z 1 t]
  | none => none
section RXY2
variable {p : Program} {l : Launch} {e : Env} {R : Room} {s : State} {m : MethodId} {args : Array Value} {below : List Frame} {meth : Method} {c : Code} {Q : State → Prop}
variable {D : bx_D} {cl : List vw_C} {A : Nat → Prop} {xa : Nat → Nat} {nL : Nat} {H0 H : Heap} {locs : List Loc} {ls : Array Slot} {r : Nat → Int} {ad : Nat → Nat}
variable {cc : ByteArray} {z : rx_Z} {zs : List rx_Z}
theorem rx_h_l2i_ok (hR : rx_R D cl A s xa nL H0 z r ad H locs ls) (hz : rx_h_l2i z = some zs)
    (row : ∀ (x : Int64) (v : Int32) (rest : List Value), x.toInt32 = v → W p l e R s m args below meth c H locs z.2.2.2.1 z.2.2.2.2.1 Q (F0 m (rx_zpc z + 1) ls (.int v :: rest)) → W p l e R s m args below meth c H locs z.2.2.2.1 z.2.2.2.2.1 Q (F0 m (rx_zpc z) ls (.long x :: rest)))
    (K : ∀ z_p ∈ zs, rx_G p l e R s m args below meth c Q D cl A xa nL H0 z.1.length z.2.2.1.length r ad z_p) : W p l e R s m args below meth c H locs z.2.2.2.1 z.2.2.2.2.1 Q (F0 m (rx_zpc z) ls ((rx_zst z).map (rx_iv r ad xa))) := by
  unfold rx_h_l2i at hz
  split at hz
  · rename_i a t ha
    have hst := rx_stsc hR
    rw [rx_pl_ok ha] at hst ⊢
    split at hz
    · cases hz
      refine row (Int64.ofInt (rx_ev r a)) (Int32.ofInt (rx_ev r a)) _ Int64.toInt32_ofInt ?_
      refine rx_at (K _ List.mem_cons_self) rx_same.rf rx_sameA.rf (rx_R_nx hR fun v hv => ?_) rfl rfl rfl rfl
      rcases List.mem_cons.mp hv with h | h
      · subst h
        have h9 : a.1 < z.1.length := hst (.inr (1, a)) List.mem_cons_self
        exact h9
      · exact hst v (List.mem_cons_of_mem _ h)
    · cases hz
      obtain ⟨r_p, q1, q2, q3⟩ := rx_fresh (lo := -2147483648) (hi := 2147483647) (Int32.ofInt (rx_ev r a)) hR.1 (rx_b32 _).1 (rx_b32 _).2
      exact row (Int64.ofInt (rx_ev r a)) (Int32.ofInt (rx_ev r a)) _ Int64.toInt32_ofInt (rx_pushI (kd := 0) (e0 := (z.1.length, 0)) hR (fun v hv => hst v (List.mem_cons_of_mem _ hv)) q1 q2 (by simp) (by simp) (by show Value.int (Int32.ofInt (rx_ev r_p (z.1.length, 0))) = _; rw [q3]) (K _ List.mem_cons_self))
  · cases hz
theorem rx_h_lsh_ok (hR : rx_R D cl A s xa nL H0 z r ad H locs ls) (hz : rx_h_lsh z = some zs)
    (row : ∀ (x : Int64) (y : Int32) (rest : List Value), ∃ v : Int64, W p l e R s m args below meth c H locs z.2.2.2.1 z.2.2.2.2.1 Q (F0 m (rx_zpc z + 1) ls (.long v :: rest)) → W p l e R s m args below meth c H locs z.2.2.2.1 z.2.2.2.2.1 Q (F0 m (rx_zpc z) ls (.int y :: .long x :: rest)))
    (K : ∀ z_p ∈ zs, rx_G p l e R s m args below meth c Q D cl A xa nL H0 z.1.length z.2.2.1.length r ad z_p) : W p l e R s m args below meth c H locs z.2.2.2.1 z.2.2.2.2.1 Q (F0 m (rx_zpc z) ls ((rx_zst z).map (rx_iv r ad xa))) := by
  unfold rx_h_lsh at hz
  split at hz
  · rename_i b t hb
    split at hz
    · rename_i a t2 ha
      cases hz
      have e1 := rx_pi_ok hb
      have e3 := rx_pl_ok ha
      subst e3
      have hst := rx_stsc hR
      rw [e1] at hst ⊢
      obtain ⟨v, hv⟩ := row (Int64.ofInt (rx_ev r a)) (Int32.ofInt (rx_ev r b)) (t2.map (rx_iv r ad xa))
      obtain ⟨r_p, q1, q2, q3⟩ := rx_freshL (lo := -9223372036854775808) (hi := 9223372036854775807) v hR.1 (rx_b64 _).1 (rx_b64 _).2
      exact hv (rx_pushI hR (fun v hv => hst v (List.mem_cons_of_mem _ (List.mem_cons_of_mem _ hv))) q1 q2 (by simp) (by simp) (by show Value.long (Int64.ofInt (rx_ev r_p _)) = _; rw [q3]) (K _ List.mem_cons_self))
    · cases hz
  · cases hz
theorem rx_h_pop2_ok (hR : rx_R D cl A s xa nL H0 z r ad H locs ls) (hz : rx_h_pop2 z = some zs)
    (row : ∀ (v : Value) (rest : List Value), v.category = 2 → W p l e R s m args below meth c H locs z.2.2.2.1 z.2.2.2.2.1 Q (F0 m (rx_zpc z + 1) ls rest) → W p l e R s m args below meth c H locs z.2.2.2.1 z.2.2.2.2.1 Q (F0 m (rx_zpc z) ls (v :: rest)))
    (K : ∀ z_p ∈ zs, rx_G p l e R s m args below meth c Q D cl A xa nL H0 z.1.length z.2.2.1.length r ad z_p) : W p l e R s m args below meth c H locs z.2.2.2.1 z.2.2.2.2.1 Q (F0 m (rx_zpc z) ls ((rx_zst z).map (rx_iv r ad xa))) := by
  unfold rx_h_pop2 at hz
  split at hz
  · rename_i a t ha
    cases hz
    have hst := rx_stsc hR
    rw [rx_pl_ok ha] at hst ⊢
    exact row _ _ rfl (rx_at (K _ List.mem_cons_self) rx_same.rf rx_sameA.rf (rx_R_nx hR fun x hx => hst x (List.mem_cons_of_mem _ hx)) rfl rfl rfl rfl)
  · cases hz
theorem rx_h_table_ok {dflt lo hi : Int} {offs : Array Int} {len : Nat} (hexec : p.tables.exec = Jvm.exec) (hb : c.code = cc) (hdg : decode cc (rx_zpc z) = .ok (.tableswitch dflt lo hi offs, len))
    (hR : rx_R D cl A s xa nL H0 z r ad H locs ls) (hz : rx_h_table dflt lo hi offs z = some zs)
    (K : ∀ z_p ∈ zs, rx_G p l e R s m args below meth c Q D cl A xa nL H0 z.1.length z.2.2.1.length r ad z_p) : W p l e R s m args below meth c H locs z.2.2.2.1 z.2.2.2.2.1 Q (F0 m (rx_zpc z) ls ((rx_zst z).map (rx_iv r ad xa))) := by
  unfold rx_h_table at hz
  split at hz
  · rename_i a t dt ha hdt
    split at hz
    · rename_i al ah hbi
      split at hz
      · rename_i hcond
        obtain ⟨c1, c2, c3⟩ := hcond
        cases hz
        obtain ⟨g1, g2, g3, g4⟩ := rx_bi_ok hR.1 hbi
        obtain ⟨m1, m2⟩ := rx_nm_ok (e := a) hR.1
        have hsts := rx_stsc hR
        rw [rx_pi_ok ha] at hsts ⊢
        have ht : ∀ v ∈ t, rx_sc z.1.length z.2.2.1.length v := fun v hv => hsts v (List.mem_cons_of_mem _ hv)
        by_cases hlo : rx_ev r a < lo
        · refine lv_tableOut hexec hb hdg (Or.inl (by rw [g3]; exact hlo)) (rx_off_ok hdt) ?_
          refine rx_way_ok (f := (0, rx_nm z.1 a, (0, lo))) hR ?_ (Nat.le_of_ble_eq_true rfl) (m2 g4) (rx_pos hR.1) ht fun z_p hz_p => K z_p (List.mem_append_right _ (List.mem_append_left _ ?_))
          · show rx_ev r (rx_nm z.1 a) < rx_ev r (0, lo)
            rw [m1, rx_ev0 hR.1]
            exact hlo
          · rw [if_pos (by omega)]
            exact hz_p
        · by_cases hhi : hi < rx_ev r a
          · refine lv_tableOut hexec hb hdg (Or.inr (by rw [g3]; exact hhi)) (rx_off_ok hdt) ?_
            refine rx_way_ok (f := (0, (0, hi), rx_nm z.1 a)) hR ?_ (Nat.le_of_ble_eq_true rfl) (rx_pos hR.1) (m2 g4) ht fun z_p hz_p => K z_p (List.mem_append_right _ (List.mem_append_right _ ?_))
            · show rx_ev r (0, hi) < rx_ev r (rx_nm z.1 a)
              rw [m1, rx_ev0 hR.1]
              exact hhi
            · rw [if_pos (by omega)]
              exact hz_p
          · have hj : (rx_ev r a - lo).toNat < offs.size := by omega
            have hget : offs[(rx_ev r a - lo).toNat]? = some (offs[(rx_ev r a - lo).toNat]) := Array.getElem?_eq_getElem hj
            have hgd : offs.getD (rx_ev r a - lo).toNat 0 = offs[(rx_ev r a - lo).toNat] := by
              rw [Array.getD_eq_getD_getElem?, hget]
              rfl
            have hpos : 0 ≤ (rx_zpc z : Int) + offs[(rx_ev r a - lo).toNat] := by
              have := List.all_eq_true.mp c2 offs[(rx_ev r a - lo).toNat] (by simp)
              exact of_decide_eq_true this
            refine lv_tableIn hexec hb hdg (by rw [g3]; exact hlo) (by rw [g3]; exact hhi) (off := offs[(rx_ev r a - lo).toNat]) (tgt := ((rx_zpc z : Int) + offs[(rx_ev r a - lo).toNat]).toNat) (by rw [g3]; exact hget) (by omega) ?_
            rw [← hgd]
            have hcast : lo + (((rx_ev r a - lo).toNat : Nat) : Int) = rx_ev r a := by omega
            refine rx_way_ok (f := (2, rx_nm z.1 a, (0, lo + (((rx_ev r a - lo).toNat : Nat) : Int)))) hR ?_ (Nat.le_of_ble_eq_true rfl) (m2 g4) (rx_pos hR.1) ht fun z_p hz_p => K z_p (List.mem_append_left _ (List.mem_flatMap.mpr ⟨(rx_ev r a - lo).toNat, List.mem_range.mpr hj, ?_⟩))
            · show rx_ev r (rx_nm z.1 a) = rx_ev r (0, _)
              rw [m1, rx_ev0 hR.1]
              exact hcast.symm
            · unfold rx_tcase
              rw [if_pos (by rw [hcast]; exact ⟨g1, g2⟩)]
              exact hz_p
      · cases hz
    · cases hz
  · cases hz
theorem rx_h_look_ok {dflt : Int} {ps : Array (Int × Int)} {len : Nat} (hexec : p.tables.exec = Jvm.exec) (hb : c.code = cc) (hdg : decode cc (rx_zpc z) = .ok (.lookupswitch dflt ps, len))
    (hR : rx_R D cl A s xa nL H0 z r ad H locs ls) (hz : rx_h_look dflt ps z = some zs)
    (K : ∀ z_p ∈ zs, rx_G p l e R s m args below meth c Q D cl A xa nL H0 z.1.length z.2.2.1.length r ad z_p) : W p l e R s m args below meth c H locs z.2.2.2.1 z.2.2.2.2.1 Q (F0 m (rx_zpc z) ls ((rx_zst z).map (rx_iv r ad xa))) := by
  unfold rx_h_look at hz
  split at hz
  · rename_i a t dt ha hdt
    split at hz
    · rename_i q hbi
      obtain ⟨al, ah⟩ := q
      obtain ⟨hc, hz2⟩ := rx_if_ok hz
      clear hz
      cases hz2
      rw [Bool.and_eq_true] at hc
      obtain ⟨c1, c2⟩ := hc
      obtain ⟨g1, g2, g3, g4⟩ := rx_bi_ok hR.1 hbi
      obtain ⟨m1, m2⟩ := rx_nm_ok (e := a) hR.1
      have hsts := rx_stsc hR
      rw [rx_pi_ok ha] at hsts ⊢
      have ht : ∀ v ∈ t, rx_sc z.1.length z.2.2.1.length v := fun v hv => hsts v (List.mem_cons_of_mem _ hv)
      rcases rx_look_mem ps.toList dflt (Int32.ofInt (rx_ev r a)).toInt with ⟨q, h1, h2, h3⟩ | h1
      · have hpos := List.all_eq_true.mp c2 q h1
        have hpos := of_decide_eq_true hpos
        refine lv_lookup hexec hb hdg c1 h3 (tgt := ((rx_zpc z : Int) + q.2).toNat) (by omega) ?_
        refine rx_way_ok (f := (2, rx_nm z.1 a, (0, q.1))) hR ?_ (Nat.le_of_ble_eq_true rfl) (m2 g4) (rx_pos hR.1) ht fun z_p hz_p => K z_p (List.mem_append_left _ (List.mem_flatMap.mpr ⟨q, h1, hz_p⟩))
        show rx_ev r (rx_nm z.1 a) = rx_ev r (0, q.1)
        rw [m1, rx_ev0 hR.1, h2, g3]
      · refine lv_lookup hexec hb hdg c1 h1 (rx_off_ok hdt) ?_
        exact rx_at (K _ (List.mem_append_right _ List.mem_cons_self)) rx_same.rf rx_sameA.rf (rx_R_jp hR rfl hR.1 hR.2.1 hR.2.2.1 ht) rfl rfl rfl rfl
    · cases hz
  · cases hz
end RXY2
noncomputable abbrev bx_B : Type := bx_V × Nat × (Nat → Int → Bool) × (Nat → Nat → Bool)
noncomputable def rx_step (B : bx_B) (T : rx_Tb) (M : rx_Mt) (i : Instr) (len : Nat) (nx : Except DecodeError (Instr × Nat)) (z : rx_Z) : Option (List rx_Z) := match i with
  | .iconst n => rx_if (len == 1) (rx_h_push (rx_n n) 1 z)
  | .bipush n => rx_if (len == 2) (rx_h_push (rx_n (Int8.ofInt n).toInt32.toInt) 2 z)
  | .sipush n => rx_if (len == 3) (rx_h_push (rx_n (Int16.ofInt n).toInt32.toInt) 3 z)
  | .lconst n => rx_if (len == 1) (rx_h_push (.inr (1, (0, ((n : Nat) : Int)))) 1 z)
  | .aconst_null => rx_if (len == 1) (rx_h_push (.inl none) 1 z)
  | .ldc idx => rx_if (len == 2) (rx_h_const T.2.2.2.1 M.1 idx 0 2 z)
  | .ldc_w idx => rx_if (len == 3) (rx_h_const T.2.2.2.1 M.1 idx 0 3 z)
  | .ldc2_w idx => rx_if (len == 3) (rx_h_const T.2.2.2.1 M.1 idx 1 3 z)
  | .iload_n k => rx_if (len == 1) (rx_h_load 0 k 1 z)
  | .iload k => rx_if (len == 2) (rx_h_load 0 k 2 z)
  | .lload_n k => rx_if (len == 1) (rx_h_load 1 k 1 z)
  | .lload k => rx_if (len == 2) (rx_h_load 1 k 2 z)
  | .aload_n k => rx_if (len == 1) (rx_h_loadA k 1 z)
  | .aload k => rx_if (len == 2) (rx_h_loadA k 2 z)
  | .istore_n k => rx_if (len == 1) (rx_h_istore M.2.2.1 k 1 z)
  | .istore k => rx_if (len == 2) (rx_h_istore M.2.2.1 k 2 z)
  | .lstore_n k => rx_if (len == 1) (rx_h_lstore M.2.2.1 k 1 z)
  | .lstore k => rx_if (len == 2) (rx_h_lstore M.2.2.1 k 2 z)
  | .astore_n k => rx_if (len == 1) (rx_h_astore M.2.2.1 k 1 z)
  | .astore k => rx_if (len == 2) (rx_h_astore M.2.2.1 k 2 z)
  | .iinc k n => rx_if (len == 3) (rx_h_iinc M.2.2.1 k n z)
  | .iadd => rx_if (len == 1) (rx_h_bin 0 z)
  | .isub => rx_if (len == 1) (rx_h_sub z)
  | .imul => rx_if (len == 1) (rx_h_bin 2 z)
  | .idiv => rx_if (len == 1) (rx_h_div 3 z)
  | .irem => rx_if (len == 1) (rx_h_div 4 z)
  | .iand => rx_if (len == 1) (rx_h_and z)
  | .ior => rx_if (len == 1) (rx_h_bin 6 z)
  | .ixor => rx_if (len == 1) (rx_h_bin 7 z)
  | .ishl => rx_if (len == 1) (rx_h_bin 8 z)
  | .ishr => rx_if (len == 1) (rx_h_bin 9 z)
  | .iushr => rx_if (len == 1) (rx_h_bin 10 z)
  | .ineg => rx_if (len == 1) (rx_h_ineg z)
  | .ladd => rx_if (len == 1) (rx_h_binL 0 z)
  | .lsub => rx_if (len == 1) (rx_h_binL 1 z)
  | .lmul => rx_if (len == 1) (rx_h_binL 2 z)
  | .ldiv => rx_if (len == 1) (rx_h_divL 3 z)
  | .lrem => rx_if (len == 1) (rx_h_divL 4 z)
  | .land => rx_if (len == 1) (rx_h_binL 5 z)
  | .lor => rx_if (len == 1) (rx_h_binL 6 z)
  | .lxor => rx_if (len == 1) (rx_h_binL 7 z)
  | .l2i => rx_if (len == 1) (rx_h_l2i z)
  | .lshl => rx_if (len == 1) (rx_h_lsh z)
  | .lshr => rx_if (len == 1) (rx_h_lsh z)
  | .pop2 => rx_if (len == 1) (rx_h_pop2 z)
  | .i2l => rx_if (len == 1) (rx_h_i2l z)
  | .lcmp => rx_if (len == 1) (rx_h_lcmp nx z)
  | .ifCond cnd off => rx_if (len == 3) (rx_h_if cnd off z)
  | .if_icmp cnd off => rx_if (len == 3) (rx_h_icmp cnd off z)
  | .goto off => rx_if (len == 3) (rx_h_goto off z)
  | .tableswitch dflt lo hi offs => rx_h_table dflt lo hi offs z
  | .lookupswitch dflt ps => rx_h_look dflt ps z
  | .dup => rx_if (len == 1) (rx_h_dup z)
  | .dup2 => rx_if (len == 1) (rx_h_dup2 z)
  | .pop => rx_if (len == 1) (rx_h_pop z)
  | .getfield idx => rx_if (len == 3) (bx_h_get B.1 B.2.1 B.2.2.2 (T.1 M.1) idx z)
  | .putfield idx => rx_if (len == 3) (bx_h_put B.1 B.2.2.1 B.2.2.2 (T.1 M.1) idx z)
  | .arraylength => rx_if (len == 1) (bx_h_alen B.1 z)
  | .iaload => rx_if (len == 1) (bx_h_ald B.1 B.2.1 B.2.2.2 (rx_isTc 0) z)
  | .baload => rx_if (len == 1) (bx_h_ald B.1 B.2.1 B.2.2.2 (rx_isTc 1) z)
  | .laload => rx_if (len == 1) (bx_h_ald B.1 B.2.1 B.2.2.2 (rx_isTc 2) z)
  | .aaload => rx_if (len == 1) (bx_h_ald B.1 B.2.1 B.2.2.2 rx_isRef z)
  | .iastore => rx_if (len == 1) (bx_h_ast B.1 B.2.2.1 B.2.2.2 (rx_isTc 0) z)
  | .bastore => rx_if (len == 1) (bx_h_ast B.1 B.2.2.1 B.2.2.2 (rx_isTc 1) z)
  | .lastore => rx_if (len == 1) (bx_h_ast B.1 B.2.2.1 B.2.2.2 (rx_isTc 2) z)
  | _ => none
noncomputable def rx_Fr (G NW : List Jvm.Cond) (AO : List String) (PX : State → Prop) (p : Program) (s : State) (m : MethodId) (args : Array Value) (meth : Method) (c : Code) (M : rx_Mt) : Prop :=
  p.tables.exec = Jvm.exec ∧ c.code = M.2.1 ∧ meth.sig.returnType = M.2.2.2.1 ∧ c.maxLocals = M.2.2.1 ∧ s.vm.findClass M.2.2.2.2.1.cls = some m.cls ∧ meth.locks = false ∧ (∀ w ∈ G, w.before args s = true) ∧ (∀ w ∈ NW, va_Nw w s) ∧ (∀ C ∈ AO, va_AO C s) ∧ PX s ∧ (M.2.2.2.2.2.1 = true → meth.name = "<init>")
noncomputable def rx_frOK (G NW : List Jvm.Cond) (cl : List vw_C) (nm : Nat → String) (T : rx_Tb) : Prop := ∀ (o idx : Nat) (q : rx_Q), T.1 o idx = some q →
  ∃ (C : String) (F : u_T) (N : Nat) (ty : Nat → FieldType), cl[q.1]? = some (C, F, N) ∧ q.2.1 < N ∧ (∀ w ∈ u_ws C F N, w ∈ G) ∧ (∀ k, k < N → parseFieldDescriptor (F k).2.2.1 = some (ty k)) ∧ (∀ a, a < N → ∀ b, b < N → a ≠ b → (F a).2.1 ≠ (F b).2.1) ∧
    rx_tyc (ty q.2.1) = q.2.2.1 ∧ (F q.2.1).2.2.2 = q.2.2.2.1 ∧ (q.2.2.2.1 = true → q.2.2.2.2 = false → (F q.2.1).1 = nm o) ∧
    ((q.2.2.2.2 = false ∧ Jvm.Cond.fieldLink (nm o) idx (F q.2.1).1 (F q.2.1).2.1 (F q.2.1).2.2.1 ∈ G) ∨ (q.2.2.2.2 = true ∧ ∃ host : String, Jvm.Cond.fieldLinkNest (nm o) idx (F q.2.1).1 (F q.2.1).2.1 (F q.2.1).2.2.1 host ∈ NW))
noncomputable def rx_kcOK (G : List Jvm.Cond) (nm : Nat → String) (T : rx_Tb) : Prop := ∀ (o idx k : Nat) (n : Int), T.2.2.2.1 o idx = some (.inr (k, (0, n))) →
  (k = 0 → Jvm.Cond.constant (nm o) idx (Int32.ofInt n) ∈ G) ∧ (k = 1 → Jvm.Cond.constantLong (nm o) idx (Int64.ofInt n) ∈ G)
section RXT
variable {p : Program} {l : Launch} {e : Env} {R : Room} {s : State} {m : MethodId} {args : Array Value} {below : List Frame} {meth : Method} {c : Code} {Q : State → Prop}
variable {D : bx_D} {cl : List vw_C} {A : Nat → Prop} {xa : Nat → Nat} {H0 H : Heap} {locs : List Loc} {ls : Array Slot} {r : Nat → Int} {ad : Nat → Nat}
variable {z : rx_Z} {zs : List rx_Z} {G NW : List Jvm.Cond} {AO : List String} {PX : State → Prop} {T : rx_Tb} {B : bx_B} {M : rx_Mt} {nm : Nat → String}
theorem rx_Fok_of (hF : rx_Fr G NW AO PX p s m args meth c M) (hn : nm M.1 = M.2.2.2.2.1.cls) (hT : rx_frOK G NW cl nm T) {idx : Nat} {q : rx_Q} (hq : T.1 M.1 idx = some q) : rx_Fok s args G M.2.2.2.2.1.cls cl idx q := by
  obtain ⟨C, F, N, ty, h1, h2, h3, h4, h5, h6, h7, h8, h9⟩ := hT M.1 idx q hq
  rw [hn] at h8 h9
  refine ⟨C, F, N, ty, h1, h2, h3, h4, h5, h6, h7, h8, ?_⟩
  rcases h9 with ⟨k1, k2⟩ | ⟨k1, host, k2⟩
  · exact Or.inl ⟨k1, hF.2.2.2.2.2.2.1 _ k2⟩
  · exact Or.inr ⟨k1, host, va_Nw.use rfl (hF.2.2.2.2.2.2.2.1 _ k2)⟩
set_option maxHeartbeats 4000000 in
theorem rx_step_ok {i : Instr} {len : Nat} (hF : rx_Fr G NW AO PX p s m args meth c M) (hn : nm M.1 = M.2.2.2.2.1.cls) (t1 : rx_frOK G NW cl nm T) (t4 : rx_kcOK G nm T) (hV : bx_VOK D.2.1 B.1) (hnp : B.2.1 = D.2.1.2.1) (hdm : B.2.2.1 = D.2.1.2.2.2) (hmd : B.2.2.2 = D.2.2.2)
    (hdg : decode M.2.1 (rx_zpc z) = .ok (i, len))
    (hR : rx_R D cl A s xa M.2.2.1 H0 z r ad H locs ls) (hz : rx_step B T M i len (decode M.2.1 (rx_zpc z + 1)) z = some zs)
    (K : ∀ z_p ∈ zs, rx_G p l e R s m args below meth c Q D cl A xa M.2.2.1 H0 z.1.length z.2.2.1.length r ad z_p) : W p l e R s m args below meth c H locs z.2.2.2.1 z.2.2.2.2.1 Q (F0 m (rx_zpc z) ls ((rx_zst z).map (rx_iv r ad xa))) := by
  obtain ⟨hx, hb, hr, hml, hown, hlk, hts, hnw, hao, hpx, hini⟩ := id hF
  cases i with
  | iconst n =>
    obtain ⟨hl, hz⟩ := rx_ifn hz
    subst hl
    exact rx_h_push_ok hR hz (rx_n_iv hR.1 n) (rx_sc0 hR 0 n) (fun k => lv_iconst hx hb hdg rfl k) K
  | bipush n =>
    obtain ⟨hl, hz⟩ := rx_ifn hz
    subst hl
    exact rx_h_push_ok hR hz (by rw [rx_n_iv hR.1, Int32.ofInt_toInt]) (rx_sc0 hR 0 _) (fun k => lv_bipush hx hb hdg rfl k) K
  | sipush n =>
    obtain ⟨hl, hz⟩ := rx_ifn hz
    subst hl
    exact rx_h_push_ok hR hz (by rw [rx_n_iv hR.1, Int32.ofInt_toInt]) (rx_sc0 hR 0 _) (fun k => lv_sipush hx hb hdg rfl k) K
  | lconst n =>
    obtain ⟨hl, hz⟩ := rx_ifn hz
    subst hl
    exact rx_h_push_ok hR hz (rx_nL_iv hR.1 _) (rx_sc0 hR 1 _) (fun k => lv_lconst hx hb hdg (by rw [← Int64.ofInt_eq_ofNat]) k) K
  | aconst_null =>
    obtain ⟨hl, hz⟩ := rx_ifn hz
    subst hl
    exact rx_h_push_ok hR hz rfl trivial (fun k => lv_null hx hb hdg k) K
  | ldc idx =>
    obtain ⟨hl, hz⟩ := rx_ifn hz
    subst hl
    have hz : rx_h_const T.2.2.2.1 M.1 idx 0 2 z = some zs := hz
    unfold rx_h_const at hz
    split at hz
    · rename_i k n hk
      obtain ⟨hk0, hz⟩ := rx_ifn hz
      subst hk0
      have hw := (t4 M.1 idx _ n hk).1 rfl
      rw [hn] at hw
      exact rx_h_push_ok hR hz (rx_n_iv hR.1 n) (rx_sc0 hR 0 n) (fun k => lv_ldc hx hb hown (hts _ hw) hdg k) K
    · cases hz
  | ldc_w idx =>
    obtain ⟨hl, hz⟩ := rx_ifn hz
    subst hl
    have hz : rx_h_const T.2.2.2.1 M.1 idx 0 3 z = some zs := hz
    unfold rx_h_const at hz
    split at hz
    · rename_i k n hk
      obtain ⟨hk0, hz⟩ := rx_ifn hz
      subst hk0
      have hw := (t4 M.1 idx _ n hk).1 rfl
      rw [hn] at hw
      exact rx_h_push_ok hR hz (rx_n_iv hR.1 n) (rx_sc0 hR 0 n) (fun k => lv_ldcw hx hb hown (hts _ hw) hdg k) K
    · cases hz
  | ldc2_w idx =>
    obtain ⟨hl, hz⟩ := rx_ifn hz
    subst hl
    have hz : rx_h_const T.2.2.2.1 M.1 idx 1 3 z = some zs := hz
    unfold rx_h_const at hz
    split at hz
    · rename_i k n hk
      obtain ⟨hk0, hz⟩ := rx_ifn hz
      subst hk0
      have hw := (t4 M.1 idx _ n hk).2 rfl
      rw [hn] at hw
      exact rx_h_push_ok hR hz (rx_nL_iv hR.1 n) (rx_sc0 hR 1 n) (fun k => lv_ldc2 hx hb hown (hts _ hw) hdg k) K
    · cases hz
  | iload_n k =>
    obtain ⟨hl, hz⟩ := rx_ifn hz
    subst hl
    exact rx_h_load_ok hR hz (fun e0 h k => lv_iload_n hx hb hdg rfl h k) K
  | iload k =>
    obtain ⟨hl, hz⟩ := rx_ifn hz
    subst hl
    exact rx_h_load_ok hR hz (fun e0 h k => lv_iload hx hb hdg h k) K
  | lload_n k =>
    obtain ⟨hl, hz⟩ := rx_ifn hz
    subst hl
    exact rx_h_load_ok hR hz (fun e0 h k => lv_lload_n hx hb hdg rfl h k) K
  | lload k =>
    obtain ⟨hl, hz⟩ := rx_ifn hz
    subst hl
    exact rx_h_load_ok hR hz (fun e0 h k => lv_lload hx hb hdg h k) K
  | aload_n k =>
    obtain ⟨hl, hz⟩ := rx_ifn hz
    subst hl
    exact rx_h_loadA_ok hR hz (fun h k => lv_aload_nN hx hb hdg rfl h k) (fun a h k => lv_aload_n hx hb hdg rfl h k) K
  | aload k =>
    obtain ⟨hl, hz⟩ := rx_ifn hz
    subst hl
    exact rx_h_loadA_ok hR hz (fun h k => lv_aloadN hx hb hdg h k) (fun a h k => lv_aload hx hb hdg h k) K
  | istore_n k =>
    obtain ⟨hl, hz⟩ := rx_ifn hz
    subst hl
    exact rx_h_istore_ok hR hz (fun x rest h k => lv_istore_n hx hb hdg rfl (rx_lvh hR) h rfl k) K
  | istore k =>
    obtain ⟨hl, hz⟩ := rx_ifn hz
    subst hl
    exact rx_h_istore_ok hR hz (fun x rest h k => lv_istore hx hb hdg (rx_lvh hR) h rfl k) K
  | lstore_n k =>
    obtain ⟨hl, hz⟩ := rx_ifn hz
    subst hl
    exact rx_h_lstore_ok hR hz (fun x rest h k => lv_lstore_n hx hb hdg rfl (rx_lvh hR) h rfl k) K
  | lstore k =>
    obtain ⟨hl, hz⟩ := rx_ifn hz
    subst hl
    exact rx_h_lstore_ok hR hz (fun x rest h k => lv_lstore hx hb hdg (rx_lvh hR) h rfl k) K
  | astore_n k =>
    obtain ⟨hl, hz⟩ := rx_ifn hz
    subst hl
    refine rx_h_astore_ok hR hz (fun o rest h k => ?_) K
    cases o with
    | none => exact lv_astore_nN hx hb hdg rfl (rx_lvh hR) h rfl k
    | some a => exact lv_astore_n hx hb hdg rfl (rx_lvh hR) h rfl k
  | astore k =>
    obtain ⟨hl, hz⟩ := rx_ifn hz
    subst hl
    refine rx_h_astore_ok hR hz (fun o rest h k => ?_) K
    cases o with
    | none => exact lv_astoreN hx hb hdg (rx_lvh hR) h rfl k
    | some a => exact lv_astore hx hb hdg (rx_lvh hR) h rfl k
  | iinc k n =>
    obtain ⟨hl, hz⟩ := rx_ifn hz
    subst hl
    exact rx_h_iinc_ok hR hz (fun x v j h1 h2 h3 k => lv_iinc hx hb hdg (rx_lvh hR) h2 h3 h1 rfl k) K
  | iadd =>
    obtain ⟨hl, hz⟩ := rx_ifn hz
    subst hl
    exact rx_h_bin_ok hR hz (fun a b t _ k => lv_iadd hx hb hdg k) K
  | isub =>
    obtain ⟨hl, hz⟩ := rx_ifn hz
    subst hl
    exact rx_h_sub_ok hR hz (fun a b t _ k => lv_isub hx hb hdg k) K
  | imul =>
    obtain ⟨hl, hz⟩ := rx_ifn hz
    subst hl
    exact rx_h_bin_ok hR hz (fun a b t _ k => lv_imul hx hb hdg k) K
  | idiv =>
    obtain ⟨hl, hz⟩ := rx_ifn hz
    subst hl
    exact rx_h_div_ok hR hz (fun x y t h k => lv_idiv hx hb hdg h k) K
  | irem =>
    obtain ⟨hl, hz⟩ := rx_ifn hz
    subst hl
    exact rx_h_div_ok hR hz (fun x y t h k => lv_irem hx hb hdg h k) K
  | iand =>
    obtain ⟨hl, hz⟩ := rx_ifn hz
    subst hl
    exact rx_h_and_ok hR hz (fun a b t _ k => lv_iand hx hb hdg k) K
  | ior =>
    obtain ⟨hl, hz⟩ := rx_ifn hz
    subst hl
    exact rx_h_bin_ok hR hz (fun a b t _ k => lv_ior hx hb hdg k) K
  | ixor =>
    obtain ⟨hl, hz⟩ := rx_ifn hz
    subst hl
    exact rx_h_bin_ok hR hz (fun a b t _ k => lv_ixor hx hb hdg k) K
  | ishl =>
    obtain ⟨hl, hz⟩ := rx_ifn hz
    subst hl
    exact rx_h_bin_ok hR hz (fun a b t _ k => lv_ishl hx hb hdg k) K
  | ishr =>
    obtain ⟨hl, hz⟩ := rx_ifn hz
    subst hl
    exact rx_h_bin_ok hR hz (fun a b t _ k => lv_ishr hx hb hdg k) K
  | iushr =>
    obtain ⟨hl, hz⟩ := rx_ifn hz
    subst hl
    exact rx_h_bin_ok hR hz (fun a b t _ k => lv_iushr hx hb hdg rfl k) K
  | ineg =>
    obtain ⟨hl, hz⟩ := rx_ifn hz
    subst hl
    exact rx_h_ineg_ok hR hz (fun x t k => lv_ineg hx hb hdg k) K
  | ladd =>
    obtain ⟨hl, hz⟩ := rx_ifn hz
    subst hl
    exact rx_h_binL_ok hR hz (fun a b t _ k => lv_ladd hx hb hdg k) K
  | lsub =>
    obtain ⟨hl, hz⟩ := rx_ifn hz
    subst hl
    exact rx_h_binL_ok hR hz (fun a b t _ k => lv_lsub hx hb hdg k) K
  | lmul =>
    obtain ⟨hl, hz⟩ := rx_ifn hz
    subst hl
    exact rx_h_binL_ok hR hz (fun a b t _ k => lv_lmul hx hb hdg k) K
  | ldiv =>
    obtain ⟨hl, hz⟩ := rx_ifn hz
    subst hl
    exact rx_h_divL_ok hR hz (fun x y t h k => lv_ldiv hx hb hdg h k) K
  | lrem =>
    obtain ⟨hl, hz⟩ := rx_ifn hz
    subst hl
    exact rx_h_divL_ok hR hz (fun x y t h k => lv_lrem hx hb hdg h k) K
  | i2l =>
    obtain ⟨hl, hz⟩ := rx_ifn hz
    subst hl
    exact rx_h_i2l_ok hR hz (fun x t k => lv_i2l hx hb hdg rfl k) K
  | lcmp =>
    obtain ⟨hl, hz⟩ := rx_ifn hz
    subst hl
    exact rx_h_lcmp_ok hx hb hdg hR hz K
  | ifCond cnd off =>
    obtain ⟨hl, hz⟩ := rx_ifn hz
    subst hl
    exact rx_h_if_ok hx hb hdg hR hz K
  | if_icmp cnd off =>
    obtain ⟨hl, hz⟩ := rx_ifn hz
    subst hl
    exact rx_h_icmp_ok hx hb hdg hR hz K
  | goto off =>
    obtain ⟨hl, hz⟩ := rx_ifn hz
    subst hl
    exact rx_h_goto_ok hx hb hdg hR hz K
  | tableswitch dflt lo hi offs =>
    have hz : rx_h_table dflt lo hi offs z = some zs := hz
    exact rx_h_table_ok hx hb hdg hR hz K
  | lookupswitch dflt ps =>
    have hz : rx_h_look dflt ps z = some zs := hz
    exact rx_h_look_ok hx hb hdg hR hz K
  | dup =>
    obtain ⟨hl, hz⟩ := rx_ifn hz
    subst hl
    exact rx_h_dup_ok hR hz (fun v t h k => lv_dup hx hb hdg h k) K
  | dup2 =>
    obtain ⟨hl, hz⟩ := rx_ifn hz
    subst hl
    exact rx_h_dup2_ok hR hz (fun v t h k => lv_dup2_2 hx hb hdg h k) (fun v w t h1 h2 k => lv_dup2_11 hx hb hdg h1 h2 k) K
  | pop =>
    obtain ⟨hl, hz⟩ := rx_ifn hz
    subst hl
    exact rx_h_pop_ok hR hz (fun v t h k => lv_pop hx hb hdg h k) K
  | land =>
    obtain ⟨hl, hz⟩ := rx_ifn hz
    subst hl
    exact rx_h_binL_ok hR hz (fun a b t _ k => lv_land hx hb hdg k) K
  | lor =>
    obtain ⟨hl, hz⟩ := rx_ifn hz
    subst hl
    exact rx_h_binL_ok hR hz (fun a b t _ k => lv_lor hx hb hdg k) K
  | lxor =>
    obtain ⟨hl, hz⟩ := rx_ifn hz
    subst hl
    exact rx_h_binL_ok hR hz (fun a b t _ k => lv_lxor hx hb hdg k) K
  | l2i =>
    obtain ⟨hl, hz⟩ := rx_ifn hz
    subst hl
    exact rx_h_l2i_ok hR hz (fun x v t h k => lv_l2i hx hb hdg h k) K
  | lshl =>
    obtain ⟨hl, hz⟩ := rx_ifn hz
    subst hl
    exact rx_h_lsh_ok hR hz (fun x y t => ⟨_, fun k => lv_lshl hx hb hdg rfl k⟩) K
  | lshr =>
    obtain ⟨hl, hz⟩ := rx_ifn hz
    subst hl
    exact rx_h_lsh_ok hR hz (fun x y t => ⟨_, fun k => lv_lshr hx hb hdg rfl k⟩) K
  | pop2 =>
    obtain ⟨hl, hz⟩ := rx_ifn hz
    subst hl
    exact rx_h_pop2_ok hR hz (fun v t h k => lv_pop2_2 hx hb hdg h k) K
  | getfield idx =>
    obtain ⟨hl, hz⟩ := rx_ifn hz
    subst hl
    exact bx_h_get_ok hx hb hts hown (fun q hq => rx_Fok_of hF hn t1 hq) hV hnp hmd hdg hR hz K
  | putfield idx =>
    obtain ⟨hl, hz⟩ := rx_ifn hz
    subst hl
    exact bx_h_put_ok hx hb hts hown (fun q hq => rx_Fok_of hF hn t1 hq) hV hdm hmd hdg hR hz K
  | arraylength =>
    obtain ⟨hl, hz⟩ := rx_ifn hz
    subst hl
    exact bx_alen_ok hx hb hV hdg hR hz K
  | iaload =>
    obtain ⟨hl, hz⟩ := rx_ifn hz
    subst hl
    exact bx_iald hx hb hV hnp hmd hdg hR hz K
  | baload =>
    obtain ⟨hl, hz⟩ := rx_ifn hz
    subst hl
    exact bx_zald hx hb hV hnp hmd hdg hR hz K
  | laload =>
    obtain ⟨hl, hz⟩ := rx_ifn hz
    subst hl
    exact bx_lald hx hb hV hnp hmd hdg hR hz K
  | aaload =>
    obtain ⟨hl, hz⟩ := rx_ifn hz
    subst hl
    exact bx_aald hx hb hV hnp hmd hdg hR hz K
  | iastore =>
    obtain ⟨hl, hz⟩ := rx_ifn hz
    subst hl
    exact bx_iast hx hb hV hdm hmd hdg hR hz K
  | bastore =>
    obtain ⟨hl, hz⟩ := rx_ifn hz
    subst hl
    exact bx_zast hx hb hV hdm hmd hdg hR hz K
  | lastore =>
    obtain ⟨hl, hz⟩ := rx_ifn hz
    subst hl
    exact bx_last hx hb hV hdm hmd hdg hR hz K
  | _ => exact absurd (show (none : Option (List rx_Z)) = some zs from hz) (fun q => by cases q)
end RXT
end
section
noncomputable def rx_in01 (I : rx_I) (e : rx_E) : Bool := match rx_bi I e with
  | some (lo, hi) => decide (0 ≤ lo) && decide (hi ≤ 1)
  | none => false
theorem rx_in01_ok {I : rx_I} {e : rx_E} {r : Nat → Int} (h : rx_sat I r) (hf : rx_in01 I e = true) : Int32.ofInt (rx_ev r e) = 0 ∨ Int32.ofInt (rx_ev r e) = 1 := by
  unfold rx_in01 at hf
  split at hf
  · rename_i lo hi he
    obtain ⟨h1, h2, -, -⟩ := rx_bi_ok h he
    rw [Bool.and_eq_true, decide_eq_true_eq, decide_eq_true_eq] at hf
    rcases (show rx_ev r e = 0 ∨ rx_ev r e = 1 by omega) with q | q
    · exact Or.inl (by rw [q]; rfl)
    · exact Or.inr (by rw [q]; rfl)
  · exact absurd hf Bool.false_ne_true
noncomputable abbrev rx_End : Type := rx_I × rx_F × List rx_C × Option rx_V
noncomputable def rx_bind {α β : Type} (g : α → Option (List β)) : List α → Option (List β)
  | [] => some []
  | a :: l => match g a with
    | none => none
    | some x => match rx_bind g l with
      | none => none
      | some y => some (x ++ y)
theorem rx_bind_ok {α β : Type} {g : α → Option (List β)} : ∀ {l : List α} {ys : List β}, rx_bind g l = some ys → ∀ a ∈ l, ∃ xs, g a = some xs ∧ ∀ x ∈ xs, x ∈ ys
  | [], _, _, a, ha => absurd ha List.not_mem_nil
  | b :: l, ys, h, a, ha => by
    rw [rx_bind] at h
    split at h
    · cases h
    · rename_i x hx
      split at h
      · cases h
      · rename_i y hy
        cases h
        rcases List.mem_cons.mp ha with e | e
        · subst e
          exact ⟨x, hx, fun w hw => List.mem_append_left _ hw⟩
        · obtain ⟨xs, h1, h2⟩ := rx_bind_ok hy a e
          exact ⟨xs, h1, fun w hw => List.mem_append_right _ (h2 w hw)⟩
noncomputable def rx_cats : List rx_V → Nat
  | [] => 0
  | v :: l => (if rx_k2 v then 2 else 1) + rx_cats l
noncomputable def rx_largs : Nat → List rx_V → List (Nat × rx_V)
  | _, [] => []
  | i, v :: l => (i, v) :: rx_largs (if rx_k2 v then i + 2 else i + 1) l
theorem rx_cats_sum {r : Nat → Int} {ad xa : Nat → Nat} : ∀ (t : List rx_V), ((t.map (rx_iv r ad xa)).map fun v => v.category).sum = rx_cats t
  | [] => rfl
  | v :: t => by
    rw [List.map_cons, List.map_cons, List.sum_cons, rx_cats_sum t, rx_cats]
    cases h : rx_k2 v with
    | true => rw [rx_cat2 h, if_pos rfl]
    | false => rw [rx_cat h, if_neg Bool.false_ne_true]
theorem rx_cats_sl {r : Nat → Int} {ad xa : Nat → Nat} : ∀ (t : List rx_V), (lg_sl (t.map (rx_iv r ad xa))).length = rx_cats t
  | [] => rfl
  | v :: t => by
    have ih := rx_cats_sl (r := r) (ad := ad) (xa := xa) t
    rw [List.map_cons, rx_cats]
    unfold lg_sl at ih ⊢
    rw [List.flatMap_cons, List.length_append, ih]
    cases h : rx_k2 v with
    | true => rw [if_pos (rx_cat2 h), if_pos rfl]; rfl
    | false => rw [if_neg (by rw [rx_cat h]; exact Nat.succ_ne_self 1 ∘ Eq.symm), if_neg Bool.false_ne_true]; rfl
theorem rx_largs_lv {r : Nat → Int} {ad xa : Nat → Nat} : ∀ (t : List rx_V) (i : Nat), rx_lvs r ad xa (rx_largs i t) = lv_args i (t.map (rx_iv r ad xa))
  | [], _ => rfl
  | v :: t, i => by
    rw [List.map_cons, rx_largs, lv_args]
    show (i, rx_iv r ad xa v) :: rx_lvs r ad xa (rx_largs _ t) = _
    rw [rx_largs_lv t]
    cases h : rx_k2 v with
    | true => rw [if_pos (rx_cat2 h), if_pos rfl]
    | false => rw [if_neg Bool.false_ne_true, if_neg (by rw [rx_cat h]; exact Nat.succ_ne_self 1 ∘ Eq.symm)]
theorem rx_largs_mem : ∀ {t : List rx_V} {i : Nat} {q : Nat × rx_V}, q ∈ rx_largs i t → q.2 ∈ t
  | [], _, _, h => absurd h List.not_mem_nil
  | v :: t, i, q, h => by
    rw [rx_largs] at h
    rcases List.mem_cons.mp h with e | e
    · subst e; exact List.mem_cons_self
    · exact List.mem_cons_of_mem _ (rx_largs_mem e)
noncomputable def rx_take : Nat → List rx_V → List rx_V → Option (List rx_V × List rx_V)
  | 0, acc, t => some (acc, t)
  | n + 1, acc, t => match t with
    | [] => none
    | v :: t2 => rx_take n (v :: acc) t2
theorem rx_take_ok : ∀ {n : Nat} {acc t as rest : List rx_V}, rx_take n acc t = some (as, rest) → as.length = n + acc.length ∧ acc.reverse ++ t = as.reverse ++ rest
  | 0, acc, t, as, rest, h => by
    rw [rx_take] at h
    cases h
    exact ⟨(Nat.zero_add _).symm, rfl⟩
  | n + 1, acc, [], as, rest, h => absurd (show (none : Option (List rx_V × List rx_V)) = some (as, rest) from h) (fun q => by cases q)
  | n + 1, acc, v :: t2, as, rest, h => by
    have h : rx_take n (v :: acc) t2 = some (as, rest) := h
    obtain ⟨h1, h2⟩ := rx_take_ok h
    refine ⟨by rw [h1, List.length_cons]; omega, ?_⟩
    rw [← h2, List.reverse_cons, List.append_assoc]
    rfl
noncomputable def rx_cidx (i : Instr) : Option (Nat × Nat) := match i with
  | .invokevirtual idx => some (0, idx)
  | .invokestatic idx => some (1, idx)
  | .invokespecial idx => some (2, idx)
  | _ => none
noncomputable def rx_rcv (B : bx_B) (ht : List rx_C) (ci : Nat) (t : List rx_V) : Option (rx_E × List rx_V) := match bx_pp t with
  | some (e, t2) => match bx_dm ht e.1 with
    | some d => match B.1.1 d e.2 with
      | some (.inl (ci_p, _)) => rx_if (ci_p == ci) (some (e, t2))
      | _ => none
    | none => none
  | none => none
noncomputable def rx_z0 (z : rx_Z) (as : List rx_V) : rx_Z := match z with
  | (I0, F1, ht0, _, _, _, _, _) => (I0, F1, ht0, 0, 0, 0, rx_largs 0 as, [])
noncomputable def rx_may (M M_p : rx_Mt) (z : rx_Z) (as t : List rx_V) : Bool :=
  decide (rx_cats t ≤ 8) && (decide (rx_cats as ≤ M_p.2.2.1) && (decide (M_p.2.2.1 ≤ 21) && (decide (z.2.2.2.1 + M_p.2.2.2.2.2.2.1 ≤ M.2.2.2.2.2.2.1) && decide (z.2.2.2.2.1 + M_p.2.2.2.2.2.2.2 ≤ M.2.2.2.2.2.2.2))))
noncomputable def rx_prep (B : bx_B) (T : rx_Tb) (M : rx_Mt) (i : Instr) (len : Nat) (z : rx_Z) : Option (rx_J × rx_Mt × List rx_V × List rx_V) := match rx_cidx i with
  | none => none
  | some (op, idx) => match T.2.2.2.2.1 M.1 idx with
    | none => none
    | some q => match T.2.2.2.2.2 q.2.2.2, rx_take q.2.1 [] (rx_zst z) with
      | some M_p, some (as, t) => rx_if (len == 3 && (q.1 % 3 == op && decide (q.1 < 6))) (
        if op = 1 then rx_if (rx_may M M_p z as t) (some (q, M_p, as, t))
        else match rx_rcv B z.2.2.1 q.2.2.1 t with
          | some (k, t2) => rx_if (rx_may M M_p z (.inr (3, k) :: as) t2) (some (q, M_p, .inr (3, k) :: as, t2))
          | none => none)
      | _, _ => none
noncomputable def rx_back (M_p : rx_Mt) (z : rx_Z) (t : List rx_V) (E : rx_End) : rx_Z := match z, E with
  | (_, _, _, c0, s0, pc0, lv0, _), (I0, F1, ht0, v0) => (I0, F1, ht0, c0 + M_p.2.2.2.2.2.2.1, s0 + M_p.2.2.2.2.2.2.2, pc0 + 3, lv0, v0.toList ++ t)
noncomputable def rx_retk (M : rx_Mt) (i : Instr) (len : Nat) (z : rx_Z) : Option rx_End :=
  rx_if (len == 1 && (decide (z.2.2.2.1 ≤ M.2.2.2.2.2.2.1) && decide (z.2.2.2.2.1 ≤ M.2.2.2.2.2.2.2))) (match i with
    | .ireturn => (match rx_zst z with
      | [.inr (0, e)] => (match M.2.2.2.1 with
        | some .int => some (z.1, z.2.1, z.2.2.1, some (.inr (0, e)))
        | some .boolean => rx_if (rx_in01 z.1 e) (some (z.1, z.2.1, z.2.2.1, some (.inr (0, e))))
        | _ => none)
      | _ => none)
    | .lreturn => (match rx_zst z with
      | [.inr (1, e)] => (match M.2.2.2.1 with
        | some .long => some (z.1, z.2.1, z.2.2.1, some (.inr (1, e)))
        | _ => none)
      | _ => none)
    | .areturn => (match rx_zst z with
      | [.inr (3, e)] => (match M.2.2.2.1 with
        | some (.object _) => some (z.1, z.2.1, z.2.2.1, some (.inr (3, e)))
        | some (.array _) => some (z.1, z.2.1, z.2.2.1, some (.inr (3, e)))
        | _ => none)
      | _ => none)
    | .return_ => (match rx_zst z with
      | [] => (match M.2.2.2.1 with
        | none => some (z.1, z.2.1, z.2.2.1, none)
        | _ => none)
      | _ => none)
    | _ => none)
noncomputable abbrev rx_Xh : Type := Nat → rx_Mt → Instr → Nat → rx_Z → Option (List rx_Z)
noncomputable def rx_exec (B : bx_B) (xh : rx_Xh) (T : rx_Tb) : (rx_Z → Bool) → Nat → Nat → rx_Mt → rx_Z → Option (List rx_End)
  | _, 0, _, _, _ => none
  | cut, f + 1, d, M, z => match decode M.2.1 (rx_zpc z) with
    | .error _ => none
    | .ok (i, len) => match rx_retk M i len z with
      | some E => some [E]
      | none => match rx_or (xh d M i len z) (rx_step B T M i len (decode M.2.1 (rx_zpc z + 1)) z) with
        | some zs => rx_bind (fun z_p => if cut z_p = true then some [] else rx_exec B xh T cut f d M z_p) zs
        | none => match d with
          | 0 => none
          | d_p + 1 => match rx_prep B T M i len z with
            | none => none
            | some (_, M_p, as, t) => match rx_exec B xh T (fun _ => false) f d_p M_p (rx_z0 z as) with
              | none => none
              | some Es => rx_bind (fun E => rx_exec B xh T cut f (d_p + 1) M (rx_back M_p z t E)) Es
noncomputable def rx_mlOK (G : List Jvm.Cond) (nm : Nat → String) (T : rx_Tb) : Prop := ∀ (j : Nat) (M : rx_Mt), T.2.2.2.2.2 j = some M →
  nm M.1 = M.2.2.2.2.1.cls ∧ Jvm.Cond.code M.2.2.2.2.1 M.2.1 M.2.2.1 M.2.2.2.1 ∈ G ∧ plainName M.2.2.2.2.1.cls = true ∧ Jvm.Cond.initialized M.2.2.2.2.1.cls ∈ G ∧ (M.2.2.2.2.1.cls ≠ "java/lang/invoke/MethodHandle" ∧ M.2.2.2.2.1.cls ≠ "java/lang/invoke/VarHandle") ∧ (M.2.2.2.2.2.1 = true → M.2.2.2.2.1.name = "<init>")
noncomputable def rx_cjOK (G NW : List Jvm.Cond) (cl : List vw_C) (nm : Nat → String) (T : rx_Tb) : Prop := ∀ (o idx : Nat) (q : rx_J) (M : rx_Mt), T.2.2.2.2.1 o idx = some q → T.2.2.2.2.2 q.2.2.2 = some M →
  (parseMethodDescriptor M.2.2.2.2.1.desc).map (fun d => d.parameters.length) = some q.2.1 ∧
  (q.1 < 3 → Jvm.Cond.methodLink (nm o) idx M.2.2.2.2.1 ∈ G) ∧ (3 ≤ q.1 → ∃ host : String, Jvm.Cond.methodLinkNest (nm o) idx M.2.2.2.2.1 host ∈ NW) ∧
  (q.1 % 3 = 1 → Jvm.Cond.static M.2.2.2.2.1 ∈ G) ∧ (q.1 % 3 ≠ 1 → Jvm.Cond.instanceMethod M.2.2.2.2.1 ∈ G ∧ ∃ (F : u_T) (N : Nat), cl[q.2.2.1]? = some (M.2.2.2.2.1.cls, F, N)) ∧ (q.1 % 3 = 0 → Jvm.Cond.selects M.2.2.2.2.1.cls M.2.2.2.2.1 M.2.2.2.2.1 ∈ G) ∧ (q.1 % 3 = 2 → M.2.2.2.2.1.name = "<init>" ∧ M.2.2.2.1 = none)
noncomputable def rx_W0 (D : bx_D) (cl : List vw_C) (A : Nat → Prop) (s : State) (xa : Nat → Nat) (N : Nat) (ht : List rx_C) (r : Nat → Int) (ad : Nat → Nat) (H : Heap) : Prop :=
  ∃ S : Nat → Int → Int, bx_W0 D cl A s ad S H ∧ (bx_same D.2.1 D.2.2.2 D.2.2.1 S ∧ (bx_lg D.2.2.2 = true → bx_chain D.2.1 N r D.2.2.1 ht S)) ∧ bx_kns D ad xa S N ht r
theorem rx_W.to0 {D : bx_D} {cl : List vw_C} {A : Nat → Prop} {s : State} {xa : Nat → Nat} {N : Nat} {ht : List rx_C} {r : Nat → Int} {ad : Nat → Nat} {H0 H : Heap} {locs : List Loc} (h : rx_W D cl A s xa N ht r ad H0 H locs) : rx_W0 D cl A s xa N ht r ad H ∧ va_S A H0 H locs := by
  obtain ⟨S, h1, h2, h3, h4⟩ := h
  exact ⟨⟨S, h1, h3, h4⟩, h2⟩
theorem rx_W0.to {D : bx_D} {cl : List vw_C} {A : Nat → Prop} {s : State} {xa : Nat → Nat} {N : Nat} {ht : List rx_C} {r : Nat → Int} {ad : Nat → Nat} {H0 H : Heap} {locs : List Loc} (h : rx_W0 D cl A s xa N ht r ad H) (hS : va_S A H0 H locs) : rx_W D cl A s xa N ht r ad H0 H locs := by
  obtain ⟨S, h1, h3, h4⟩ := h
  exact ⟨S, h1, hS, h3, h4⟩
theorem bx_W0.moved {D : bx_D} {cl : List vw_C} {A : Nat → Prop} {s U : State} {ad : Nat → Nat} {S : Nat → Int → Int} {H : Heap} (h : bx_W0 D cl A s ad S H) (hvm : s.vm.Alike U.vm) : bx_W0 D cl A U ad S H := by
  obtain ⟨ws, tys, hI, hK, h⟩ := h
  exact ⟨ws, tys, hI, va_K.moved hvm hK, h⟩
theorem rx_W0.moved {D : bx_D} {cl : List vw_C} {A : Nat → Prop} {s U : State} {xa : Nat → Nat} {N : Nat} {ht : List rx_C} {r : Nat → Int} {ad : Nat → Nat} {H : Heap} (h : rx_W0 D cl A s xa N ht r ad H) (hvm : s.vm.Alike U.vm) : rx_W0 D cl A U xa N ht r ad H := by
  obtain ⟨S, h1, h3, h4⟩ := h
  exact ⟨S, h1.moved hvm, h3, h4⟩
noncomputable def rx_RE (D : bx_D) (cl : List vw_C) (A : Nat → Prop) (s : State) (xa : Nat → Nat) (E : rx_End) (r : Nat → Int) (ad : Nat → Nat) (H : Heap) : Prop :=
  rx_sat E.1 r ∧ rx_facts E.2.1 r ∧ rx_fsc E.1.length E.2.1 ∧ rx_W0 D cl A s xa E.1.length E.2.2.1 r ad H ∧ ∀ v, E.2.2.2 = some v → rx_sc E.1.length E.2.2.1.length v
noncomputable def rx_rti (M : rx_Mt) (pc : Nat) (r : Nat → Int) (ad xa : Nat → Nat) (v : Option rx_V) : Prop := match v with
  | none => decode M.2.1 pc = .ok (.return_, 1) ∧ M.2.2.2.1 = none
  | some (.inr (0, e)) => decode M.2.1 pc = .ok (.ireturn, 1) ∧ ∃ ty, M.2.2.2.1 = some ty ∧ narrow ty (rx_iv r ad xa (.inr (0, e))) = rx_iv r ad xa (.inr (0, e))
  | some (.inr (1, _)) => decode M.2.1 pc = .ok (.lreturn, 1) ∧ M.2.2.2.1 = some .long
  | some (.inr (2, _)) => False
  | some (.inr (_ + 3, _)) => decode M.2.1 pc = .ok (.areturn, 1) ∧ ∃ ty, M.2.2.2.1 = some ty ∧ ((∃ n, ty = .object n) ∨ ∃ t, ty = .array t)
  | some (.inl _) => False
theorem rx_retk_ok {M : rx_Mt} {i : Instr} {len : Nat} {z : rx_Z} {E : rx_End} {r : Nat → Int} {ad xa : Nat → Nat} (hs : rx_sat z.1 r) (h : rx_retk M i len z = some E) (hdg : decode M.2.1 (rx_zpc z) = .ok (i, len)) : E.1 = z.1 ∧ E.2.1 = z.2.1 ∧ E.2.2.1 = z.2.2.1 ∧ rx_zst z = E.2.2.2.toList ∧ z.2.2.2.1 ≤ M.2.2.2.2.2.2.1 ∧ z.2.2.2.2.1 ≤ M.2.2.2.2.2.2.2 ∧ rx_rti M (rx_zpc z) r ad xa E.2.2.2 := by
  unfold rx_retk at h
  obtain ⟨h1, h2⟩ := rx_if_ok h
  rw [Bool.and_eq_true, Bool.and_eq_true, beq_iff_eq, decide_eq_true_eq, decide_eq_true_eq] at h1
  obtain ⟨hl, hc, hsl⟩ := h1
  subst hl
  split at h2
  · split at h2
    · rename_i e hst
      split at h2
      · rename_i hret
        cases h2
        exact ⟨rfl, rfl, rfl, hst, hc, hsl, hdg, .int, hret, rfl⟩
      · rename_i hret
        obtain ⟨h01, h2⟩ := rx_if_ok h2
        cases h2
        refine ⟨rfl, rfl, rfl, hst, hc, hsl, hdg, .boolean, hret, ?_⟩
        show narrow .boolean (.int (Int32.ofInt (rx_ev r e))) = .int (Int32.ofInt (rx_ev r e))
        rcases rx_in01_ok hs h01 with q | q <;> rw [q] <;> rfl
      · cases h2
    · cases h2
  · split at h2
    · rename_i e hst
      split at h2
      · rename_i hret
        cases h2
        exact ⟨rfl, rfl, rfl, hst, hc, hsl, hdg, hret⟩
      · cases h2
    · cases h2
  · split at h2
    · rename_i o hst
      split at h2
      · rename_i n hret
        cases h2
        exact ⟨rfl, rfl, rfl, hst, hc, hsl, hdg, _, hret, Or.inl ⟨n, rfl⟩⟩
      · rename_i n hret
        cases h2
        exact ⟨rfl, rfl, rfl, hst, hc, hsl, hdg, _, hret, Or.inr ⟨n, rfl⟩⟩
      · cases h2
    · cases h2
  · split at h2
    · rename_i hst
      split at h2
      · rename_i hret
        cases h2
        exact ⟨rfl, rfl, rfl, hst, hc, hsl, hdg, hret⟩
      · cases h2
    · cases h2
  · cases h2
section RXC
variable {p : Program} {l : Launch} {e : Env} {R : Room} {s : State} {m : MethodId} {args : Array Value} {below : List Frame} {meth : Method} {c : Code} {H : Heap} {locs : List Loc} {cells slots : Nat} {Q : State → Prop}
variable {pc : Nat} {ls : Array Slot} {rest st0 : List Value} {A : Nat → Prop} {H0 : Heap} {mc ms : Nat}
theorem rx_call {Qa : State → Outcome → State → Prop} (hr : va_Run p l e R s m args below meth c H locs cells slots mc ms (F0 m pc ls st0) rest Qa A) (hS : va_S A H0 H locs) (hQ : ∀ st oc t, Qa st oc t → va_F A st t)
    (kk : ∀ (v : Option Value) (st t : State) (H1 : Heap) (locs1 : List Loc), t.heap = H1 → st.heap = H → s.vm.Alike t.vm → Qa st (.returned v) t → va_S A H0 H1 locs1 → W p l e R s m args below meth c H1 locs1 (cells + mc) (slots + ms) Q (F0 m (pc + 3) ls (v.toList ++ rest))) : W p l e R s m args below meth c H locs cells slots Q (F0 m pc ls st0) := by
  intro T hT X
  obtain ⟨v, st₀, t, T_p, L, h0, X_p, hL, e1, e2, hq, st⟩ := hr T hT X
  obtain ⟨hz, hk⟩ := hQ _ _ _ hq
  rw [h0] at hz hk
  obtain ⟨t2, a1, b1⟩ := kk v st₀ t T_p.heap (locs ++ L) e1.symm h0 (by rw [← e2]; exact X_p.warmed.alike) hq
    ⟨Nat.le_trans hS.1 (by rw [e1]; exact hz), fun q h1 h2 => by rw [e1, hk q (Nat.lt_of_lt_of_le h1 hS.1) h2]; exact hS.2.1 q h1 h2, fun q hq => by
      rcases List.mem_append.mp hq with h | h
      · exact hS.2.2 q h
      · exact hL q h⟩ T_p rfl X_p
  exact ⟨t2, st t2 a1, b1⟩
end RXC
end
