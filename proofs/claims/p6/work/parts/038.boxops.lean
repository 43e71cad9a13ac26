/-! THE BOX MACHINE: fields and rows -/
def rx_nxh (ht : List rx_C) (z : rx_Z) (d : Nat) (st : List rx_V) : rx_Z := match z with
  | (I0, F1, _, c0, s0, pc0, lv0, _) => (I0, F1, ht, c0, s0, pc0 + d, lv0, st)
/-- what is read or written is written down, where all is -/
def bx_ee (t : Nat) (e ix : rx_E) (v : rx_V) : rx_C := (((0, 0), 3000000 * (t + 3 * (bx_en e + 340282366920938463463374607431768211456 * bx_en ix))), v)
def bx_log1 (t : Nat) (e ix : rx_E) (q : rx_C) (ht : List rx_C) : Option (List rx_C) := if bx_isE q = true ∧ q.1.1 = (0, 0) ∧ bx_kd q = t ∧ bx_pe q = e ∧ bx_ie q = ix then some (q :: ht) else none
def bx_log (md : Nat → Nat → Bool) (t : Nat) (e ix : rx_E) (v : rx_V) (ht : List rx_C) : Option (List rx_C) := match bx_lg md with
  | false => some ht
  | true => bx_log1 t e ix (bx_ee t e ix v) ht
def bx_logR (md : Nat → Nat → Bool) (e ix : rx_E) (v : rx_V) (ht : List rx_C) : Option (List rx_C) := match v with
  | .inr (0, _) => bx_log md 0 e ix v ht
  | .inr (1, _) => bx_log md 0 e ix v ht
  | .inr (3, (n + 1, _)) => bx_log md 0 e ix v ht
  | _ => some ht
def bx_h_get (V : bx_V) (np : Nat) (md : Nat → Nat → Bool) (fr : Nat → Option rx_Q) (idx : Nat) (z : rx_Z) : Option (List rx_Z) := match bx_pp (rx_zst z), fr idx with
  | some (e, t), some q => match bx_dm z.2.2.1 e.1 with
    | some d => match V.1 d e.2 with
      | some (.inl (ci, tcs)) => if ci = q.1 ∧ q.2.1 < 1000000 ∧ tcs[q.2.1]? = some q.2.2.1 then (match bx_ck z.2.2.1 e q.2.1 with
        | some v => some [rx_nx z 3 (v :: t)]
        | none => match V.2.1 d e.2 q.2.1 q.2.1 1 with
          | some ty => match bx_nv q.2.2.1 e.1 np ty z.1 z.2.2.1 with
            | some (I, ht, v) => match bx_logR md e (0, (q.2.1 : Int)) v (((e, q.2.1), v) :: ht) with
              | some ht2 => some [bx_nxk I ht2 z 3 (v :: t)]
              | none => none
            | none => none
          | none => none) else none
      | _ => none
    | none => none
  | _, _ => none
/-- what stays known when field k of an object of class ci is written -/
def bx_keep (V : bx_V) (ht : List rx_C) (k ci : Nat) (q : rx_C) : Bool := decide (1000000 ≤ q.1.2) || (!(q.1.2 == k) || (match bx_dm ht q.1.1.1 with
  | some d => match V.1 d q.1.1.2 with
    | some (.inl (ci', _)) => !(ci' == ci)
    | _ => false
  | none => false))
def bx_h_put (V : bx_V) (dmf : Nat → Int → Bool) (md : Nat → Nat → Bool) (fr : Nat → Option rx_Q) (idx : Nat) (z : rx_Z) : Option (List rx_Z) := match rx_pv (rx_zst z), fr idx with
  | some (v, t), some q => match bx_pp t with
    | some (e, t2) => match bx_dm z.2.2.1 e.1 with
      | some d => match V.1 d e.2 with
        | some (.inl (ci, tcs)) => match V.2.2 d e.2 q.2.1 q.2.1 1 with
          | some ty => if ci = q.1 ∧ q.2.1 < 1000000 ∧ tcs[q.2.1]? = some q.2.2.1 ∧ q.2.2.2.1 = false ∧ md ci q.2.1 = true ∧ bx_fits dmf z.1 z.2.2.1 q.2.2.1 e.1 ty v = true then (match bx_log md 1 e (0, (q.2.1 : Int)) v (((e, q.2.1), v) :: z.2.2.1.filter (bx_keep V z.2.2.1 q.2.1 ci)) with
              | some ht2 => some [rx_nxh ht2 z 3 t2]
              | none => none) else none
          | none => none
        | _ => none
      | none => none
    | none => none
  | _, _ => none
/-- an entry whose index is known is kept in mind -/
def bx_kc (e : rx_E) (lo hi : Int) (v : rx_V) (ht : List rx_C) : List rx_C := if lo = hi ∧ lo < 1000000 then ((e, lo.toNat), v) :: ht else ht
def bx_ckr (ht : List rx_C) (e : rx_E) (lo hi : Int) : Option rx_V := if lo = hi ∧ lo < 1000000 then bx_ck ht e lo.toNat else none
def bx_h_ald (V : bx_V) (np : Nat) (md : Nat → Nat → Bool) (okc : Nat → Bool) (z : rx_Z) : Option (List rx_Z) := match rx_pi (rx_zst z) with
  | some (ix, t) => match bx_pp t with
    | some (e, t2) => match bx_dm z.2.2.1 e.1 with
      | some d => match V.1 d e.2 with
        | some (.inr (tc, n, _)) => if okc tc = true then (match rx_bi z.1 ix with
          | some (lo, hi) => if 0 ≤ lo ∧ hi < (n : Int) then (match bx_ckr z.2.2.1 e lo hi with
            | some v => some [rx_nx z 1 (v :: t2)]
            | none => match V.2.1 d e.2 (bx_str z.2.1 ix lo).1 hi (bx_str z.2.1 ix lo).2 with
              | some ty => match bx_nv tc e.1 np ty z.1 z.2.2.1 with
                | some (I, ht, v) => match bx_logR md e ix v (bx_kc e lo hi v ht) with
                  | some ht2 => some [bx_nxk I ht2 z 1 (v :: t2)]
                  | none => none
                | none => none
              | none => none) else none
          | none => none) else none
        | _ => none
      | none => none
    | none => none
  | none => none
/-- what stays known when an entry from lo to hi of a row of group g is written -/
def bx_keepR (V : bx_V) (ht : List rx_C) (lo hi : Int) (g : Nat) (q : rx_C) : Bool := decide (1000000 ≤ q.1.2) || (decide ((q.1.2 : Int) < lo) || (decide (hi < (q.1.2 : Int)) || (match bx_dm ht q.1.1.1 with
  | some d => match V.1 d q.1.1.2 with
    | some (.inl _) => true
    | some (.inr (_, _, g')) => !(g' == g)
    | none => false
  | none => false)))
def bx_h_ast (V : bx_V) (dmf : Nat → Int → Bool) (md : Nat → Nat → Bool) (okc : Nat → Bool) (z : rx_Z) : Option (List rx_Z) := match rx_pv (rx_zst z) with
  | some (v, t0) => match rx_pi t0 with
    | some (ix, t) => match bx_pp t with
      | some (e, t2) => match bx_dm z.2.2.1 e.1 with
        | some d => match V.1 d e.2 with
          | some (.inr (tc, n, g)) => (match rx_bi z.1 ix with
            | some (lo, hi) => (match V.2.2 d e.2 (bx_str z.2.1 ix lo).1 hi (bx_str z.2.1 ix lo).2 with
              | some ty => if okc tc = true ∧ tc ≤ 2 ∧ 0 ≤ lo ∧ hi < (n : Int) ∧ bx_fits dmf z.1 z.2.2.1 tc e.1 ty v = true ∧ bx_mdr md g lo hi = true then (match bx_log md 1 e ix v (bx_kc e lo hi v (z.2.2.1.filter (bx_keepR V z.2.2.1 lo hi g))) with
                | some ht2 => some [rx_nxh ht2 z 1 t2]
                | none => none) else none
              | none => none)
            | none => none)
          | _ => none
        | none => none
      | none => none
    | none => none
  | none => none
def bx_h_alen (V : bx_V) (z : rx_Z) : Option (List rx_Z) := match bx_pp (rx_zst z) with
  | some (e, t) => match bx_dm z.2.2.1 e.1 with
    | some d => match V.1 d e.2 with
      | some (.inr (_, n, _)) => some [rx_nx z 1 (rx_n (n : Int) :: t)]
      | _ => none
    | none => none
  | none => none
theorem bx_up_at {S : Nat → Int → Int} {p : Nat} {j v : Int} : bx_up S p j v p j = v := if_pos ⟨rfl, rfl⟩
theorem bx_up_ne {S : Nat → Int → Int} {p p_p : Nat} {j j_p v : Int} (h : ¬ (p_p = p ∧ j_p = j)) : bx_up S p j v p_p j_p = S p_p j_p := if_neg h
theorem bx_up_row {S : Nat → Int → Int} {p p_p : Nat} {j v : Int} (h : p_p ≠ p) : bx_up S p j v p_p = S p_p := funext fun _ => if_neg fun q => h q.1
theorem rx_sc.any {N M M_p : Nat} {v : rx_V} (h : rx_sc N M v) : rx_sc N M_p v := rx_sc.mono h (Nat.le_refl _) trivial
section BXO
variable {p : Program} {l : Launch} {e : Env} {R : Room} {s : State} {m : MethodId} {args : Array Value} {below : List Frame} {meth : Method} {c : Code} {Q : State → Prop}
variable {D : bx_D} {cl : List vw_C} {A : Nat → Prop} {xa : Nat → Nat} {nL : Nat} {H0 H : Heap} {locs : List Loc} {ls : Array Slot} {r : Nat → Int} {ad : Nat → Nat}
variable {cc : ByteArray} {z : rx_Z} {zs : List rx_Z} {V : bx_V}
theorem bx_R_nxk {I : rx_I} {ht' : List rx_C} {d : Nat} {st : List rx_V} {r_p : Nat → Int} {H1 : Heap} {locs1 : List Loc} (hR : rx_R D cl A s xa nL H0 z r ad H locs ls) (hI : z.1.length ≤ I.length) (hr : rx_same z.1.length r r_p) (hsat : rx_sat I r_p) (hW : rx_W D cl A s xa I.length ht' r_p ad H0 H1 locs1) (hs : ∀ v ∈ st, rx_sc I.length 0 v) : rx_R D cl A s xa nL H0 (bx_nxk I ht' z d st) r_p ad H1 locs1 ls :=
  ⟨hsat, rx_facts_ext hR.2.1 hR.2.2.1 hr, hR.2.2.1.mono hI, hW, by
    have h := rx_lvh hR
    show lv_has ls nL (rx_lvs r_p ad xa (rx_zlv z))
    rw [rx_lvs_ext (rx_lvsc hR) hr rx_sameA.rf]
    exact h, fun q hq => rx_sc.any (rx_sc.mono (M_p := 0) (rx_lvsc hR q hq) hI trivial), fun v hv => rx_sc.any (hs v hv)⟩
theorem bx_R_nxh {ht' : List rx_C} {d : Nat} {st : List rx_V} {H1 : Heap} {locs1 : List Loc} (hR : rx_R D cl A s xa nL H0 z r ad H locs ls) (hW : rx_W D cl A s xa z.1.length ht' r ad H0 H1 locs1) (hs : ∀ v ∈ st, rx_sc z.1.length 0 v) : rx_R D cl A s xa nL H0 (rx_nxh ht' z d st) r ad H1 locs1 ls :=
  ⟨hR.1, hR.2.1, hR.2.2.1, hW, hR.2.2.2.2.1, fun q hq => rx_sc.any (hR.2.2.2.2.2.1 q hq), fun v hv => rx_sc.any (hs v hv)⟩
theorem bx_log_sub {ht ht2 : List rx_C} {md : Nat → Nat → Bool} {t : Nat} {e ix : rx_E} {v : rx_V} (h : bx_log md t e ix v ht = some ht2) : (bx_lg md = false ∧ ht2 = ht) ∨ (bx_lg md = true ∧ ∃ q : rx_C, ht2 = q :: ht ∧ q.2 = v ∧ bx_isE q = true ∧ q.1.1 = (0, 0) ∧ bx_kd q = t ∧ bx_pe q = e ∧ bx_ie q = ix) := by
  unfold bx_log at h
  split at h
  · rename_i hl
    cases h
    exact Or.inl ⟨hl, rfl⟩
  · rename_i hl
    refine Or.inr ⟨hl, ?_⟩
    have hv : (bx_ee t e ix v).2 = v := rfl
    generalize bx_ee t e ix v = q at h hv
    unfold bx_log1 at h
    split at h
    · rename_i hc
      cases h
      exact ⟨q, rfl, hv, hc⟩
    · cases h
theorem bx_kns.evt {S : Nat → Int → Int} {N : Nat} {I : rx_I} {ht : List rx_C} {q : rx_C} (hV : bx_VOK D.2.1 V) (hs : rx_sat I r) (h0 : 0 < N) (hk : bx_kns D ad xa S N ht r) (h1 : bx_isE q = true) (h2 : q.1.1 = (0, 0)) (h3 : rx_sc N 0 q.2) : bx_kns D ad xa S N (q :: ht) r := fun y hy => by
  rcases List.mem_cons.mp hy with h | h
  · subst h
    have h4 := bx_isE_le h1
    refine ⟨by rw [h2]; exact h0, h3, ?_⟩
    unfold bx_kn
    rw [if_pos (by omega), h2, rx_ev0 hs]
    exact hV.2.2.2.2 _ (by omega)
  · exact hk y h
/-- all that is asked of the known: it is so, and it tells what was done since S0 -/
theorem bx_logR_ok {S S0 : Nat → Int → Int} {I : rx_I} {ht ht2 : List rx_C} {md : Nat → Nat → Bool} {e0 ix : rx_E} {v : rx_V} (hV : bx_VOK D.2.1 V) (hs : rx_sat I r) (hk : bx_kns D ad xa S I.length ht r) (hch : bx_lg md = true → bx_chain D.2.1 I.length r S0 ht S) (h : bx_logR md e0 ix v ht = some ht2)
    (h1 : rx_sc I.length 0 v) (h2 : e0.1 < I.length) (h3 : ix.1 < I.length) (h4 : S (rx_ev r e0).toNat (rx_ev r ix) = bx_num r v) : bx_kns D ad xa S I.length ht2 r ∧ (bx_lg md = true → bx_chain D.2.1 I.length r S0 ht2 S) := by
  have main : ∀ ht3, bx_log md 0 e0 ix v ht = some ht3 → bx_kns D ad xa S I.length ht3 r ∧ (bx_lg md = true → bx_chain D.2.1 I.length r S0 ht3 S) := fun ht3 h => by
    rcases bx_log_sub h with ⟨-, g2⟩ | ⟨g1, q, g2, g3, g4, g5, g6, g7, g8⟩
    · subst g2
      exact ⟨hk, hch⟩
    · subst g2
      subst g3
      refine ⟨hk.evt hV hs (rx_pos hs) g4 g5 h1, fun _ => bx_chain_evt g4 ⟨⟨h1, fun _ => ⟨by rw [g7]; exact h2, by rw [g8]; exact h3⟩⟩, ?_⟩⟩
      rw [if_pos g6, g7, g8]
      exact ⟨h4, hch g1⟩
  unfold bx_logR at h
  split at h
  · exact main _ h
  · exact main _ h
  · exact main _ h
  · cases h
    exact ⟨hk, hch⟩
theorem bx_logW_ok {S S1 S0 : Nat → Int → Int} {I : rx_I} {ht ht2 : List rx_C} {md : Nat → Nat → Bool} {e0 ix : rx_E} {v : rx_V} (hV : bx_VOK D.2.1 V) (hs : rx_sat I r) (hk : bx_kns D ad xa S I.length ht r) (hch : bx_lg md = true → bx_chain D.2.1 I.length r S0 ht S1) (h : bx_log md 1 e0 ix v ht = some ht2)
    (h1 : rx_sc I.length 0 v) (h2 : e0.1 < I.length) (h3 : ix.1 < I.length) (h4 : S = bx_up S1 (rx_ev r e0).toNat (rx_ev r ix) (bx_num r v)) : bx_kns D ad xa S I.length ht2 r ∧ (bx_lg md = true → bx_chain D.2.1 I.length r S0 ht2 S) := by
  rcases bx_log_sub h with ⟨g1, g2⟩ | ⟨g1, q, g2, g3, g4, g5, g6, g7, g8⟩
  · subst g2
    exact ⟨hk, fun g => by rw [g1] at g; exact absurd g Bool.false_ne_true⟩
  · subst g2
    subst g3
    refine ⟨hk.evt hV hs (rx_pos hs) g4 g5 h1, fun _ => bx_chain_evt g4 ⟨⟨h1, fun _ => ⟨by rw [g7]; exact h2, by rw [g8]; exact h3⟩⟩, ?_⟩⟩
    rw [if_neg (by rw [g6]; exact Nat.one_ne_zero), if_pos g6, g7, g8]
    exact ⟨S1, hch g1, h4⟩
theorem bx_h_get_ok {fr : Nat → Option rx_Q} {md : Nat → Nat → Bool} {np idx : Nat} {Ts : List Jvm.Cond} {own : String} (hexec : p.tables.exec = Jvm.exec) (hb : c.code = cc) (hts : ∀ w ∈ Ts, w.before args s = true) (hown : s.vm.findClass own = some m.cls) (hF : ∀ q, fr idx = some q → rx_Fok s args Ts own cl idx q) (hV : bx_VOK D.2.1 V) (hnp : np = D.2.1.2.1) (hmd : md = D.2.2.2) (hdg : decode cc (rx_zpc z) = .ok (.getfield idx, 3))
    (hR : rx_R D cl A s xa nL H0 z r ad H locs ls) (hz : bx_h_get V np md fr idx z = some zs)
    (K : ∀ z_p ∈ zs, rx_G p l e R s m args below meth c Q D cl A xa nL H0 z.1.length z.2.2.1.length r ad z_p) : W p l e R s m args below meth c H locs z.2.2.2.1 z.2.2.2.2.1 Q (F0 m (rx_zpc z) ls ((rx_zst z).map (rx_iv r ad xa))) := by
  subst hmd
  unfold bx_h_get at hz
  split at hz
  · rename_i e0 t q he hq
    split at hz
    · rename_i d hd
      split at hz
      · rename_i ci tcs hk
        split at hz
        · rename_i hc
          obtain ⟨S, ⟨ws, tys, hInv, hK, hP, hD, hl, hcell⟩, hS, hsm, hkn⟩ := id hR.2.2.2.1
          have hin := bx_dm_ok hR.1 hkn hd
          obtain ⟨p1, p2, p3⟩ := hV.1 d e0.2 _ hk _ hin
          obtain ⟨c0, hw, hce⟩ := hcell _ p2
          rw [p3] at hce
          obtain ⟨vs, hc0, hlen, hvs⟩ := hce
          subst hc0
          have hv := hvs q.2.1 q.2.2.1 hc.2.2
          have hst := rx_stsc hR
          rw [bx_pp_ok he] at hst ⊢
          have row : W p l e R s m args below meth c H locs z.2.2.2.1 z.2.2.2.2.1 Q (F0 m (rx_zpc z + 3) ls (bx_fv ad q.2.2.1 (S (r e0.1 + e0.2).toNat (q.2.1 : Int)) :: t.map (rx_iv r ad xa))) → W p l e R s m args below meth c H locs z.2.2.2.1 z.2.2.2.2.1 Q (F0 m (rx_zpc z) ls (((.inr (3, e0) :: t : List rx_V)).map (rx_iv r ad xa))) := fun kk => by
            obtain ⟨C, T, N, ty, f1, f2, f3, f4, f5, f6, f7, f8, f9⟩ := hF q hq
            rw [← hc.1] at f1
            rcases f9 with ⟨-, f9⟩ | ⟨-, host, f9⟩
            · exact va_get hexec hb hts f3 hown hK hP _ hw f1 q.2.1 f2 f9 (fun _ h => h) hv hdg kk
            · exact va_getN hexec hb hts f3 hown hK hP _ hw f1 q.2.1 f2 f9 (fun _ h => h) hv hdg kk
          refine row ?_
          split at hz
          · rename_i v hck
            cases hz
            obtain ⟨k1, k2, k3⟩ := hkn _ (bx_ck_ok hck)
            unfold bx_kn at k3
            rw [if_neg (by dsimp only; omega)] at k3
            obtain ⟨-, -, tc2, g2, g3⟩ := k3
            have g2 : bx_tcs (D.2.1.1 (r e0.1 + e0.2).toNat) q.2.1 = some tc2 := g2
            rw [p3] at g2
            have g2 : tcs[q.2.1]? = some tc2 := g2
            rw [hc.2.2] at g2
            cases g2
            refine rx_at (K _ List.mem_cons_self) rx_same.rf rx_sameA.rf (rx_R_nx hR fun y hy => ?_) rfl rfl rfl ?_
            · rcases List.mem_cons.mp hy with h | h
              · subst h; exact rx_sc.any k2
              · exact hst y (List.mem_cons_of_mem _ h)
            · show rx_iv r ad xa v :: t.map (rx_iv r ad xa) = _
              rw [show rx_iv r ad xa v = _ from g3]
              rfl
          · split at hz
            · rename_i ty hty
              split at hz
              · rename_i I2 ht2 v hnv
                split at hz
                case h_2 => cases hz
                rename_i ht3 hlog
                cases hz
                have hlt : e0.1 < z.1.length := hst _ List.mem_cons_self
                have hwd : q.2.1 < bx_wd (D.2.1.1 (r e0.1 + e0.2).toNat) := by
                  rw [p3]
                  exact (List.getElem?_eq_some_iff.mp hc.2.2).1
                obtain ⟨r_p, q1, q2, q3, q4, q5, q6, q7, q8⟩ := bx_nv_ok (w := S (r e0.1 + e0.2).toNat (q.2.1 : Int)) hV hnp hR.1 hlt hkn hnv (hV.2.1 d e0.2 _ _ _ ty hty _ hin _ _ (Int.le_refl _) (Int.le_refl _) (Int.emod_one _) (hInv _ _ p2 hwd))
                have hev : rx_ev r_p e0 = r e0.1 + e0.2 := rx_ev_ext hlt q1
                have hkn2 : bx_kns D ad xa S I2.length (((e0, q.2.1), v) :: ht2) r_p := fun y hy => by
                  rcases List.mem_cons.mp hy with h | h
                  · subst h
                    refine ⟨Nat.lt_of_lt_of_le hlt q3, q4, ?_⟩
                    unfold bx_kn
                    rw [if_neg (by dsimp only; omega)]
                    show 0 ≤ rx_ev r_p e0 ∧ (rx_ev r_p e0).toNat < D.2.1.2.1 ∧ _
                    rw [hev]
                    refine ⟨p1, p2, q.2.2.1, ?_, q6⟩
                    show bx_tcs (D.2.1.1 (r e0.1 + e0.2).toNat) q.2.1 = _
                    rw [p3]
                    exact hc.2.2
                  · exact q5 y h
                obtain ⟨l1, l2⟩ := bx_logR_ok (S0 := D.2.2.1) hV q2 hkn2 (fun hl => bx_chain_skip (bx_notE (by show q.2.1 < 3000000; omega)) (q8 _ (hsm.2 hl))) hlog q4 (Nat.lt_of_lt_of_le hlt q3) (rx_pos q2) (by
                  rw [hev, rx_ev0 q2, q7])
                refine rx_at (K _ List.mem_cons_self) q1 rx_sameA.rf (bx_R_nxk hR q3 q1 q2 ⟨S, ⟨ws, tys, hInv, hK, hP, hD, hl, hcell⟩, hS, ⟨hsm.1, l2⟩, l1⟩ fun y hy => ?_) rfl rfl rfl ?_ q3
                · rcases List.mem_cons.mp hy with h | h
                  · subst h; exact q4
                  · exact rx_sc.any (rx_sc.mono (M_p := 0) (hst y (List.mem_cons_of_mem _ h)) q3 trivial)
                · show rx_iv r_p ad xa v :: t.map (rx_iv r_p ad xa) = _
                  rw [q6, rx_st_ext (fun y hy => hst y (List.mem_cons_of_mem _ hy)) q1 rx_sameA.rf]
              · cases hz
            · cases hz
        · cases hz
      · cases hz
    · cases hz
  · cases hz
theorem bx_keep_ok {S : Nat → Int → Int} {ht : List rx_C} {N P k ci : Nat} {tcs : List Nat} {w : Int} {I : rx_I} {q : rx_C} (hV : bx_VOK D.2.1 V) (hs : rx_sat I r) (hk : bx_kns D ad xa S N ht r) (hP : D.2.1.1 P = .inl (ci, tcs)) (hq : q ∈ ht.filter (bx_keep V ht k ci)) : q.1.1.1 < N ∧ rx_sc N 0 q.2 ∧ bx_kn D.2.1 ad xa (bx_up S P (k : Int) w) r q := by
  obtain ⟨h1, h2⟩ := List.mem_filter.mp hq
  obtain ⟨g1, g2, g3⟩ := hk q h1
  refine ⟨g1, g2, ?_⟩
  unfold bx_kn at g3 ⊢
  split
  · rename_i hc
    rw [if_pos hc] at g3
    exact g3
  · rename_i hc
    rw [if_neg hc] at g3
    obtain ⟨a1, a2, tc2, a4, a5⟩ := g3
    refine ⟨a1, a2, tc2, a4, ?_⟩
    rw [a5, bx_up_ne]
    intro hpq
    obtain ⟨e1, e2⟩ := hpq
    have e2 : q.1.2 = k := by omega
    unfold bx_keep at h2
    rw [Bool.or_eq_true, decide_eq_true_eq, Bool.or_eq_true] at h2
    rcases h2 with h2 | h2 | h2
    · exact hc h2
    · rw [e2, beq_self_eq_true] at h2
      exact Bool.false_ne_true h2
    · split at h2
      · rename_i d hd
        split at h2
        · rename_i ci3 tcs3 hk3
          have hin := bx_dm_ok hs hk hd
          obtain ⟨p1, p2, p3⟩ := hV.1 d q.1.1.2 _ hk3 _ hin
          have e3 : D.2.1.1 P = .inl (ci3, tcs3) := by
            rw [← e1]
            exact p3
          rw [hP] at e3
          cases e3
          rw [beq_self_eq_true] at h2
          exact Bool.false_ne_true h2
        · exact Bool.false_ne_true h2
      · exact Bool.false_ne_true h2
theorem bx_h_put_ok {fr : Nat → Option rx_Q} {dmf : Nat → Int → Bool} {md : Nat → Nat → Bool} {idx : Nat} {Ts : List Jvm.Cond} {own : String} (hexec : p.tables.exec = Jvm.exec) (hb : c.code = cc) (hts : ∀ w ∈ Ts, w.before args s = true) (hown : s.vm.findClass own = some m.cls) (hF : ∀ q, fr idx = some q → rx_Fok s args Ts own cl idx q) (hV : bx_VOK D.2.1 V) (hdm : dmf = D.2.1.2.2.2) (hmd : md = D.2.2.2) (hdg : decode cc (rx_zpc z) = .ok (.putfield idx, 3))
    (hR : rx_R D cl A s xa nL H0 z r ad H locs ls) (hz : bx_h_put V dmf md fr idx z = some zs)
    (K : ∀ z_p ∈ zs, rx_G p l e R s m args below meth c Q D cl A xa nL H0 z.1.length z.2.2.1.length r ad z_p) : W p l e R s m args below meth c H locs z.2.2.2.1 z.2.2.2.2.1 Q (F0 m (rx_zpc z) ls ((rx_zst z).map (rx_iv r ad xa))) := by
  subst hdm; subst hmd
  unfold bx_h_put at hz
  split at hz
  · rename_i v t q hv hq
    split at hz
    · rename_i e0 t2 he
      split at hz
      · rename_i d hd
        split at hz
        · rename_i ci tcs hk
          split at hz
          · rename_i ty hty
            split at hz
            · rename_i hc
              obtain ⟨c1, c2, c3, c4, c5, c6⟩ := hc
              split at hz
              case h_2 => cases hz
              rename_i ht3 hlog
              cases hz
              obtain ⟨S, ⟨ws, tys, hInv, hK, hP, hD, hl, hcell⟩, hS, hsm, hkn⟩ := id hR.2.2.2.1
              have hin := bx_dm_ok hR.1 hkn hd
              obtain ⟨p1, p2, p3⟩ := hV.1 d e0.2 _ hk _ hin
              obtain ⟨c0, hw, hce⟩ := hcell _ p2
              rw [p3] at hce
              obtain ⟨vs, hc0, hlen, hvs⟩ := hce
              subst hc0
              have hklt : q.2.1 < tcs.length := (List.getElem?_eq_some_iff.mp c3).1
              have hst := rx_stsc hR
              have et := bx_pp_ok he
              subst et
              rw [rx_pv_ok hv] at hst ⊢
              obtain ⟨n1, n2, n3⟩ := bx_fits_ok hR.1 hkn c6
              obtain ⟨C, T, N, fty, f1, f2, f3, f4, f5, f6, f7, f8, f9⟩ := hF q hq
              obtain ⟨n4, n5⟩ := n3 _ f6
              rw [← c1] at f1
              have hokT := hV.2.2.1 d e0.2 _ _ _ ty hty _ hin _ _ (Int.le_refl _) (Int.le_refl _) (Int.emod_one _) n2
              have hlt : e0.1 < z.1.length := hst _ (List.mem_cons_of_mem _ List.mem_cons_self)
              have hwlen : (r e0.1 + e0.2).toNat < ws.length := by rw [hl]; exact p2
              have kk : ∀ (H1 : Heap) (locs1 : List Loc), va_P D.1 cl (ws.set (r e0.1 + e0.2).toNat (ad (r e0.1 + e0.2).toNat, .inr (ci, vs.set q.2.1 (rx_iv r ad xa v)))) H1 → va_D A (ws.set (r e0.1 + e0.2).toNat (ad (r e0.1 + e0.2).toNat, .inr (ci, vs.set q.2.1 (rx_iv r ad xa v)))) → va_S A H0 H1 locs1 → W p l e R s m args below meth c H1 locs1 z.2.2.2.1 z.2.2.2.2.1 Q (F0 m (rx_zpc z + 3) ls (t2.map (rx_iv r ad xa))) := by
                intro H1 locs1 hP1 hD1 hS1
                have hkn2 : bx_kns D ad xa (bx_up S (r e0.1 + e0.2).toNat (q.2.1 : Int) (bx_num r v)) z.1.length (((e0, q.2.1), v) :: z.2.2.1.filter (bx_keep V z.2.2.1 q.2.1 ci)) r := fun y hy => by
                  rcases List.mem_cons.mp hy with h | h
                  · subst h
                    refine ⟨hlt, rx_sc.any (hst _ List.mem_cons_self), ?_⟩
                    unfold bx_kn
                    rw [if_neg (by dsimp only; omega)]
                    refine ⟨p1, p2, q.2.2.1, ?_, by rw [show (rx_ev r (e0, q.2.1).1) = r e0.1 + e0.2 from rfl, bx_up_at]; exact n1⟩
                    show bx_tcs (D.2.1.1 (r e0.1 + e0.2).toNat) q.2.1 = _
                    rw [p3]
                    exact c3
                  · exact bx_keep_ok hV hR.1 hkn p3 h
                obtain ⟨l1, l2⟩ := bx_logW_ok (S0 := D.2.2.1) hV hR.1 hkn2 (fun hl => bx_chain_skip (bx_notE (by show q.2.1 < 3000000; omega)) (bx_chain_filter (fun y hy => by
                  have := bx_isE_le hy
                  unfold bx_keep
                  rw [decide_eq_true (show 1000000 ≤ y.1.2 by omega), Bool.true_or]) (hsm.2 hl))) hlog (rx_sc.any (hst _ List.mem_cons_self)) hlt (rx_pos hR.1) (by rw [rx_ev0 hR.1]; rfl)
                refine rx_at (K _ List.mem_cons_self) rx_same.rf rx_sameA.rf (bx_R_nxh hR ⟨bx_up S (r e0.1 + e0.2).toNat (q.2.1 : Int) (bx_num r v), ⟨_, tys, ?_, hK, hP1, hD1, by rw [List.length_set]; exact hl, ?_⟩, hS1, ⟨?_, l2⟩, l1⟩ fun y hy => rx_sc.any (hst y (List.mem_cons_of_mem _ (List.mem_cons_of_mem _ hy)))) rfl rfl rfl rfl
                · intro p_p j_p hp' hj'
                  by_cases hpj : p_p = (r e0.1 + e0.2).toNat ∧ (j_p : Int) = (q.2.1 : Int)
                  · obtain ⟨h1, h2⟩ := hpj
                    subst h1
                    rw [h2, bx_up_at]
                    exact hokT
                  · rw [bx_up_ne hpj]
                    exact hInv p_p j_p hp' hj'
                · intro p_p hp'
                  by_cases hpe : p_p = (r e0.1 + e0.2).toNat
                  · subst hpe
                    refine ⟨_, List.getElem?_set_self hwlen, ?_⟩
                    rw [p3]
                    refine ⟨_, rfl, by rw [List.length_set]; exact hlen, fun i tc hi => ?_⟩
                    by_cases hik : i = q.2.1
                    · subst hik
                      rw [c3] at hi
                      cases hi
                      rw [List.getElem?_set_self (by rw [hlen]; exact hklt), bx_up_at, n1]
                    · rw [List.getElem?_set_ne (Ne.symm hik), bx_up_ne (fun h => hik (by omega))]
                      exact hvs i tc hi
                  · obtain ⟨e1, h1, h2⟩ := hcell p_p hp'
                    refine ⟨e1, by rw [List.getElem?_set_ne (Ne.symm hpe)]; exact h1, ?_⟩
                    rw [bx_up_row hpe]
                    exact h2
                · intro p_p i hp' hi hmd
                  rw [bx_up_ne]
                  · exact hsm.1 p_p i hp' hi hmd
                  · intro h
                    obtain ⟨h1, h2⟩ := h
                    have h3 : i = q.2.1 := by omega
                    rw [h1, p3, h3] at hmd
                    have hmd : D.2.2.2 ci q.2.1 = false := hmd
                    rw [c5] at hmd
                    exact Bool.false_ne_true hmd.symm
              rcases f9 with ⟨-, f9⟩ | ⟨-, host, f9⟩
              · exact va_put hexec hb hts f3 fty f4 f5 hown hK hP hD hS _ hw f1 q.2.1 f2 f9 (fun _ h => h) (by rw [f7]; exact c4) (f4 _ f2) n4 n5 (by rw [hlen]; exact hklt) hdg kk
              · exact va_putN hexec hb hts f3 fty f4 f5 hown hK hP hD hS _ hw f1 q.2.1 f2 f9 (fun _ h => h) (by rw [f7]; exact c4) (f4 _ f2) n4 n5 (by rw [hlen]; exact hklt) hdg kk
            · cases hz
          · cases hz
        · cases hz
      · cases hz
    · cases hz
  · cases hz
end BXO
