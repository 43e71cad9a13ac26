/-! THE LOOP OF image -/
def rx_imf (f g : Nat → Int32) (o i : Nat) : Nat → Int32 := fun j => if o ≤ j ∧ j < o + i then f (j - o) else g j
theorem rx_imf_0 {f g : Nat → Int32} {o : Nat} : rx_imf f g o 0 = g := funext fun j => if_neg (by omega)
theorem rx_imf_succ {f g : Nat → Int32} {o i : Nat} : upd (rx_imf f g o i) (o + i) (f i) = rx_imf f g o (i + 1) := by
  funext j
  unfold upd rx_imf
  by_cases h : j = o + i
  · rw [if_pos h, if_pos (by omega), show j - o = i by omega]
  · rw [if_neg h]
    by_cases h2 : o ≤ j ∧ j < o + i
    · rw [if_pos h2, if_pos (by omega)]
    · rw [if_neg h2, if_neg (by omega)]
theorem rx_id_23 : decode cX12_image 23 = .ok (.iload_n 2, 1) := by decide +kernel
theorem rx_id_24 : decode cX12_image 24 = .ok (.sipush 6180, 3) := by decide +kernel
theorem rx_id_27 : decode cX12_image 27 = .ok (.if_icmp .ge 27, 3) := by decide +kernel
theorem rx_id_30 : decode cX12_image 30 = .ok (.aload_n 0, 1) := by decide +kernel
theorem rx_id_31 : decode cX12_image 31 = .ok (.getfield 16, 3) := by decide +kernel
theorem rx_id_34 : decode cX12_image 34 = .ok (.sipush 6180, 3) := by decide +kernel
theorem rx_id_37 : decode cX12_image 37 = .ok (.iload_n 1, 1) := by decide +kernel
theorem rx_id_38 : decode cX12_image 38 = .ok (.imul, 1) := by decide +kernel
theorem rx_id_39 : decode cX12_image 39 = .ok (.iload_n 2, 1) := by decide +kernel
theorem rx_id_40 : decode cX12_image 40 = .ok (.iadd, 1) := by decide +kernel
theorem rx_id_41 : decode cX12_image 41 = .ok (.aload_n 0, 1) := by decide +kernel
theorem rx_id_42 : decode cX12_image 42 = .ok (.getfield 13, 3) := by decide +kernel
theorem rx_id_45 : decode cX12_image 45 = .ok (.iload_n 2, 1) := by decide +kernel
theorem rx_id_46 : decode cX12_image 46 = .ok (.iaload, 1) := by decide +kernel
theorem rx_id_47 : decode cX12_image 47 = .ok (.iastore, 1) := by decide +kernel
theorem rx_id_48 : decode cX12_image 48 = .ok (.iinc 2 1, 3) := by decide +kernel
theorem rx_id_51 : decode cX12_image 51 = .ok (.goto (-28), 3) := by decide +kernel
theorem rx_6180 : (Int16.ofInt 6180).toInt32 = nI 6180 := by decide +kernel
section RXB
variable {p : Program} {l : Launch} {e : Env} {R : Room} {s : State} {m : MethodId} {args : Array Value} {below : List Frame} {meth : Method} {c : Code} {Q : State → Prop} {H0 : Heap}
variable {D : va_G} {cl : List vw_C} {A : Nat → Prop} {ws : va_W} {tys : List (ClassId × FieldType)} {G : List Jvm.Cond} {own C : String} {F : u_T} {N : Nat} {cells slots nL : Nat}
variable {ko ao kb ab ka aa ta tb q : Nat} {cA cB : ClassId} {vs : List Value} {f g : Nat → Int32} {Lr : List (Nat × Value)}
theorem rx_image_loop (hx : p.tables.exec = Jvm.exec) (hb : c.code = cX12_image) (hts : ∀ w ∈ G, w.before args s = true) (hown : s.vm.findClass own = some m.cls) (f3 : ∀ w ∈ u_ws C F N, w ∈ G) (f1 : cl[12]? = some (C, F, N)) (l4 : 4 < N) (l3 : 3 < N)
    (k16 : (Jvm.Cond.fieldLink own 16 (F 4).1 (F 4).2.1 (F 4).2.2.1).before args s = true) (k13 : (Jvm.Cond.fieldLink own 13 (F 3).1 (F 3).2.1 (F 3).2.2.1).before args s = true) (hK : va_K D cl tys s)
    (ho : ws[ko]? = some (ao, .inr (12, vs))) (v4 : vs[4]? = some (.ref aa)) (v3 : vs[3]? = some (.ref ab)) (hwb : ws[kb]? = some (ab, .inl (cB, 6180, .inl f))) (hwa : ws[ka]? = some (aa, .inl (cA, 12360, .inl g))) (htb : tys[tb]? = some (cB, .int)) (hta : tys[ta]? = some (cA, .int)) (hq : q ≤ 1)
    (h0 : (0, Value.ref ao) ∈ Lr) (h1 : (1, Value.int (nI q)) ∈ Lr) (hfil : Lr.filter (fun y => !(y.1 == 2) && !(y.1 + 1 == 2 && y.2.category == 2)) = Lr) (hnL : 2 < nL)
    (fin : ∀ (H : Heap) (locs : List Loc) (ls : Array Slot), lv_has ls nL ((2, .int (nI 6180)) :: Lr) → va_P D cl (ws.set ka (aa, .inl (cA, 12360, .inl (rx_imf f g (6180 * q) 6180)))) H → va_D A (ws.set ka (aa, .inl (cA, 12360, .inl (rx_imf f g (6180 * q) 6180)))) → va_S A H0 H locs → W p l e R s m args below meth c H locs cells slots Q (F0 m 54 ls [])) :
    ∀ (d i : Nat), i + d = 6180 → ∀ (H : Heap) (locs : List Loc) (ls : Array Slot), lv_has ls nL ((2, .int (nI i)) :: Lr) → va_P D cl (ws.set ka (aa, .inl (cA, 12360, .inl (rx_imf f g (6180 * q) i)))) H → va_D A (ws.set ka (aa, .inl (cA, 12360, .inl (rx_imf f g (6180 * q) i)))) → va_S A H0 H locs → W p l e R s m args below meth c H locs cells slots Q (F0 m 24 ls [.int (nI i)]) := by
  intro d
  induction d with
  | zero =>
    intro i hi H locs ls hl hP hD hS
    have hi : i = 6180 := hi
    subst hi
    refine lv_sipush hx hb rx_id_24 rx_6180 ?_
    exact lv_icmp_ge (tgt := 54) hx hb rx_id_27 rfl (fun _ => fin H locs ls hl hP hD hS) (fun h => absurd (Int32.le_refl _) h)
  | succ d ih =>
    intro i hi H locs ls hl hP hD hS
    have hlt : i < 6180 := by omega
    have hi31 : i < 2 ^ 31 := by omega
    have hka : ka < ws.length := (List.getElem?_eq_some_iff.mp hwa).1
    have ne1 : ka ≠ ko := fun e => by
      rw [e, ho] at hwa
      cases hwa
    have ne2 : ka ≠ kb := fun e => by
      rw [e, hwb] at hwa
      have h2 := congrArg (fun o : Option (Nat × va_E) => match o with
        | some (_, .inl (_, n, _)) => n
        | _ => 0) hwa
      exact absurd (show (6180 : Nat) = 12360 from h2) (by decide)
    have hl0 := hl.2.2 _ (List.mem_cons_of_mem _ h0)
    have hl1 := hl.2.2 _ (List.mem_cons_of_mem _ h1)
    have hl2 := hl.2.2 _ (List.mem_cons_self (a := (2, Value.int (nI i))) (l := Lr))
    refine lv_sipush hx hb rx_id_24 rx_6180 ?_
    refine lv_icmp_ge (tgt := 54) hx hb rx_id_27 rfl (fun h => ?_) (fun _ => ?_)
    · rw [Int32.le_iff_toInt_le, nI_toInt (by omega), nI_toInt hi31] at h
      omega
    · refine lv_aload_n hx hb rx_id_30 rfl hl0 ?_
      refine va_get hx hb hts f3 hown hK hP ko (by rw [List.getElem?_set_ne ne1]; exact ho) f1 4 l4 k16 (fun _ h => h) v4 rx_id_31 ?_
      refine lv_sipush hx hb rx_id_34 rx_6180 ?_
      refine lv_iload_n hx hb rx_id_37 rfl hl1 ?_
      refine lv_imul hx hb rx_id_38 ?_
      rw [pk_mul]
      refine lv_iload_n hx hb rx_id_39 rfl hl2 ?_
      refine lv_iadd hx hb rx_id_40 ?_
      rw [nI_add]
      refine lv_aload_n hx hb rx_id_41 rfl hl0 ?_
      refine va_get hx hb hts f3 hown hK hP ko (by rw [List.getElem?_set_ne ne1]; exact ho) f1 3 l3 k13 (fun _ h => h) v3 rx_id_42 ?_
      refine lv_iload_n hx hb rx_id_45 rfl hl2 ?_
      refine va_iald hx hb hK hP kb tb (by rw [List.getElem?_set_ne ne2]; exact hwb) htb (vp_in_nI hlt (by omega)) rx_id_46 ?_
      rw [nI_clamp hi31]
      refine va_iast hx hb hK hP hD hS ka ta (List.getElem?_set_self hka) hta (vp_in_nI (by omega) (by omega)) rx_id_47 fun H1 locs1 hP1 hD1 hS1 => ?_
      rw [List.set_set, nI_clamp (by omega), rx_imf_succ] at hP1 hD1
      refine lv_iinc (v := nI (i + 1)) hx hb rx_id_48 hl (k := 0) rfl (nI_succ i).symm hnL rfl fun ls1 hl1 => ?_
      have hl1 : lv_has ls1 nL ((2, .int (nI (i + 1))) :: Lr) := by
        have e1 : ((2, Value.int (nI i)) :: Lr).filter (fun y => !(y.1 == 2) && !(y.1 + 1 == 2 && y.2.category == 2)) = Lr := by
          rw [List.filter_cons_of_neg (fun h => Bool.false_ne_true h)]
          exact hfil
        rw [e1] at hl1
        exact hl1
      refine lv_goto (tgt := 23) hx hb rx_id_51 rfl ?_
      refine lv_iload_n hx hb rx_id_23 rfl (hl1.2.2 _ (List.mem_cons_self (a := (2, Value.int (nI (i + 1)))) (l := Lr))) ?_
      exact ih (i + 1) (by omega) H1 locs1 ls1 hl1 hP1 hD1 hS1
end RXB
theorem rx_lk_map {o j : Nat} : ∀ (ob : List (Nat × rx_V)), rx_lk (ob.map (fun q => (o + q.1, q.2))) j = if o ≤ j then rx_lk ob (j - o) else none
  | [] => by
    rw [List.map_nil]
    by_cases h : o ≤ j
    · rw [if_pos h]; rfl
    · rw [if_neg h]; rfl
  | q :: ob => by
    rw [List.map_cons, rx_lk, rx_lk_map ob]
    dsimp only
    by_cases h : o ≤ j
    · rw [if_pos h, if_pos h, rx_lk]
      by_cases h2 : q.1 = j - o
      · rw [if_pos (by omega), if_pos h2]
      · rw [if_neg (by omega), if_neg h2]
    · rw [if_neg h, if_neg h, if_neg (by omega)]
theorem rx_lk_out {n i : Nat} : ∀ {ob : List (Nat × rx_V)}, ob.all (fun q => Nat.blt q.1 n) = true → n ≤ i → rx_lk ob i = none
  | [], _, _ => rfl
  | q :: ob, h, hn => by
    rw [List.all_cons, Bool.and_eq_true] at h
    have h1 : q.1 < n := by
      have := h.1
      exact Nat.le_of_ble_eq_true this
    rw [rx_lk, if_neg (by omega)]
    exact rx_lk_out h.2 hn
theorem rx_is0_ok {v : rx_X} (h : rx_is0 v = true) : v = .inl (rx_n 0) := by
  unfold rx_is0 at h
  split at h
  · rfl
  · exact absurd h Bool.false_ne_true
theorem rx_st0_ok {st : List rx_V} (h : rx_st0 st = true) : st = [rx_n 0] := by
  unfold rx_st0 at h
  split at h
  · rfl
  · exact absurd h Bool.false_ne_true
theorem rx_isO_ok {v : rx_X} {b : Nat} (h : rx_isO v = some b) : v = .inl (.inl (some b)) := by
  unfold rx_isO at h
  split at h
  · cases h
    rfl
  · cases h
theorem rx_objOf_ok {ht : List rx_C} {k ci : Nat} {fs : List rx_X} (h : rx_objOf ht k ci = some fs) : ht[k]? = some (.inl (ci, fs)) := by
  unfold rx_objOf at h
  split at h
  · rename_i c fs0 he
    split at h
    · rename_i hc
      cases h
      rw [he, hc]
    · cases h
  · cases h
theorem rx_rowOf_ok {ht : List rx_C} {k tc n : Nat} {df : rx_X} {ov : List (Nat × rx_V)} (h : rx_rowOf ht k tc n = some (df, ov)) : ht[k]? = some (.inr (tc, n, df, ov)) := by
  unfold rx_rowOf at h
  split at h
  · rename_i t m df0 ov0 he
    split at h
    · rename_i hc
      cases h
      rw [he, hc.1, hc.2]
    · cases h
  · cases h
theorem rx_fs_isO {fs : List rx_X} {k b : Nat} (h : (fs[k]?).bind rx_isO = some b) : fs[k]? = some (.inl (.inl (some b))) := by
  cases hf : fs[k]? with
  | none =>
    rw [hf] at h
    cases h
  | some x =>
    rw [hf] at h
    rw [rx_isO_ok h]
section RXI
variable {G NW : List Jvm.Cond} {AO : List String} {cl : List vw_C} {nm : Nat → String} {A : Nat → Prop} {xa : Nat → Nat} {PX : State → Prop} {l : Launch} {D : va_G}
variable {p : Program} {e : Env} {R : Room} {s : State} {m : MethodId} {args : Array Value} {below : List Frame} {meth : Method} {c : Code} {Q : State → Prop} {H0 H : Heap} {locs : List Loc} {ls : Array Slot} {r : Nat → Int} {ad : Nat → Nat}
variable {M : rx_Mt} {z : rx_Z} {zs : List rx_Z} {d idx : Nat} {T : rx_Tb}
set_option maxHeartbeats 1000000 in
theorem rx_x_image_ok (hF : rx_Fr G NW AO PX p s m args meth c M) (hn : nm M.1 = M.2.2.2.2.1.cls) (t1 : rx_frOK G NW cl nm T) (h16 : T.1 M.1 16 = some (12, 4, 3, true, false)) (h13 : T.1 M.1 13 = some (12, 3, 3, true, false)) (hcode : M.2.1 = cX12_image) (hpc : rx_zpc z = 24)
    (hR : rx_R D cl A s xa M.2.2.1 H0 z r ad H locs ls) (hz : rx_x_image z = some zs) (K : ∀ z' ∈ zs, rx_G p l e R s m args below meth c Q D cl A xa M.2.2.1 H0 z.1.length z.2.2.1.length r ad z') :
    W p l e R s m args below meth c H locs z.2.2.2.1 z.2.2.2.2.1 Q (F0 m (rx_zpc z) ls ((rx_zst z).map (rx_iv r ad xa))) := by
  obtain ⟨I, Fa, ht, c0, s0, pc0, lv, st⟩ := z
  have hpc : pc0 = 24 := hpc
  subst hpc
  unfold rx_x_image at hz
  dsimp only at hz
  split at hz
  · rename_i k e1 hk0 hk1 hk2
    split at hz
    · rename_i fs lo hi hfs hbi
      split at hz
      · rename_i b a hb3 ha4
        split at hz
        · rename_i db ob da oa hrb hra
          obtain ⟨hc, hz⟩ := rx_if_ok hz
          simp only [Bool.and_eq_true, decide_eq_true_eq] at hc
          obtain ⟨g1, g2, g3, g4, g5, g6, g7, g8⟩ := hc
          cases hz
          have hst0 := rx_st0_ok g1
          have hdb := rx_is0_ok g2
          have hda := rx_is0_ok g3
          have hoa : oa = [] := List.isEmpty_iff.mp g4
          subst hst0; subst hdb; subst hda; subst hoa; subst g5
          have hb3 := rx_fs_isO hb3
          have ha4 := rx_fs_isO ha4
          have hrb := rx_rowOf_ok hrb
          have hra := rx_rowOf_ok hra
          have hfs := rx_objOf_ok hfs
          obtain ⟨hx, hbb, hr, hml, hown, hlk, hts, -⟩ := id hF
          rw [hcode] at hbb
          obtain ⟨ws, tys, hK, hP, hD, hS, hl, hcl⟩ := id hR.2.2.2.1
          obtain ⟨hcs0, x0, hw0, hcell0⟩ := hcl k _ hfs
          obtain ⟨vs, hx0, hlen, hvs⟩ := hcell0
          obtain ⟨hcsb, xb, hwb, hcellb⟩ := hcl b _ hrb
          obtain ⟨cB, tb, cb, hxb, htb, hshb, helb⟩ := hcellb
          obtain ⟨hcsa, xa1, hwa, hcella⟩ := hcl a _ hra
          obtain ⟨cA, ta, ca, hxa, hta, hsha, hela⟩ := hcella
          obtain ⟨f, hf⟩ := hshb
          obtain ⟨g, hg⟩ := hsha
          subst hx0; subst hxb; subst hxa; subst hf; subst hg
          obtain ⟨w3, hw3, ok3⟩ := hvs _ _ hb3
          obtain ⟨w4, hw4, ok4⟩ := hvs _ _ ha4
          have ok3 : w3 = .ref (ad b) := ok3
          have ok4 : w4 = .ref (ad a) := ok4
          subst ok3; subst ok4
          obtain ⟨C, F, N, ty, f1, f2, f3, f4, f5, f6, f7, f8, f9⟩ := rx_Fok_of hF hn t1 h16
          obtain ⟨C', F', N', ty', f1', f2', f3', f4', f5', f6', f7', f8', f9'⟩ := rx_Fok_of hF hn t1 h13
          have ef := f1.symm.trans f1'
          cases ef
          obtain ⟨-, k16⟩ := f9.resolve_right (fun h => absurd h.1 Bool.false_ne_true)
          obtain ⟨-, k13⟩ := f9'.resolve_right (fun h => absurd h.1 Bool.false_ne_true)
          obtain ⟨b1, b2, b3, b4⟩ := rx_bi_ok hR.1 hbi
          have hev : rx_ev r e1 = (lo.toNat : Int) := by omega
          have hq1 : lo.toNat ≤ 1 := by omega
          have hlv : lv_has ls M.2.2.1 (rx_lvs r ad xa lv) := rx_lvh hR
          have hls2 : ls[2]? = some (.val (rx_iv r ad xa (rx_n 0))) := rx_lv_get hlv hk2
          have hnL : 2 < M.2.2.1 := by
            rw [← hlv.1]
            exact (Array.getElem?_eq_some_iff.mp hls2).1
          have hdel : ∀ y : Nat × rx_V, y ∈ rx_del lv 2 → y ∈ lv := fun y hy => (List.mem_filter.mp hy).1
          have m0 : (0, Value.ref (ad k)) ∈ rx_lvs r ad xa (rx_del lv 2) := List.mem_map.mpr ⟨(0, .inl (some k)), List.mem_filter.mpr ⟨rx_lk_mem hk0, rfl⟩, rfl⟩
          have m1 : (1, Value.int (nI lo.toNat)) ∈ rx_lvs r ad xa (rx_del lv 2) := List.mem_map.mpr ⟨(1, .inr (0, e1)), List.mem_filter.mpr ⟨rx_lk_mem hk1, rfl⟩, by
            show (1, Value.int (Int32.ofInt (rx_ev r e1))) = _
            rw [hev, Int32.ofInt_eq_ofNat]
            rfl⟩
          have hfil : (rx_lvs r ad xa (rx_del lv 2)).filter (fun y => !(y.1 == 2) && !(y.1 + 1 == 2 && y.2.category == 2)) = rx_lvs r ad xa (rx_del lv 2) := by
            refine List.filter_eq_self.mpr fun y hy => ?_
            obtain ⟨y0, h1, h2⟩ := List.mem_map.mp hy
            subst h2
            dsimp only
            rw [rx_cateq]
            exact (List.mem_filter.mp h1).2
          have e0 : ws.set a (ad a, .inl (cA, 12360, .inl (rx_imf f g (6180 * lo.toNat) 0))) = ws := by
            rw [rx_imf_0]
            exact rx_set_self hwa
          have hstart : lv_has ls M.2.2.1 ((2, .int (nI 0)) :: rx_lvs r ad xa (rx_del lv 2)) := by
            refine ⟨hlv.1, hlv.2.1, fun y hy => ?_⟩
            rcases List.mem_cons.mp hy with h | h
            · subst h
              rw [rx_n_iv hR.1] at hls2
              exact hls2
            · obtain ⟨y0, h1, h2⟩ := List.mem_map.mp h
              exact hlv.2.2 y (List.mem_map.mpr ⟨y0, hdel y0 h1, h2⟩)
          show W p l e R s m args below meth c H locs c0 s0 Q (F0 m 24 ls [rx_iv r ad xa (rx_n 0)])
          rw [rx_n_iv hR.1]
          refine rx_image_loop (A := A) (H0 := H0) (own := M.2.2.2.2.1.cls) hx hbb hts hown f3 f1 f2 f2' k16 k13 hK hw0 hw4 hw3 hwb hwa htb hta hq1 m0 m1 hfil hnL (fun H1 locs1 ls1 hl1 hP1 hD1 hS1 => ?_) 6180 0 (Nat.zero_add _) H locs ls hstart (by rw [e0]; exact hP) (by rw [e0]; exact hD) hS
          have hgt : ∀ j : Nat, rx_gt (ob.map (fun q => (6180 * lo.toNat + q.1, q.2))) (.inl (rx_n 0)) j = if 6180 * lo.toNat ≤ j ∧ j < 6180 * lo.toNat + 6180 then rx_gt ob (.inl (rx_n 0)) (j - 6180 * lo.toNat) else .inl (rx_n 0) := by
            intro j
            unfold rx_gt
            rw [rx_lk_map]
            by_cases h : 6180 * lo.toNat ≤ j
            · rw [if_pos h]
              by_cases h2 : j < 6180 * lo.toNat + 6180
              · rw [if_pos ⟨h, h2⟩]
              · rw [if_neg (fun q => h2 q.2), rx_lk_out g8 (by omega)]
            · rw [if_neg h, if_neg (fun q => h q.1)]
          have hx' : rx_csc I.length ht.length (.inr (0, 12360, .inl (rx_n 0), ob.map (fun q => (6180 * lo.toNat + q.1, q.2)))) := fun j hj => by
            rw [hgt j]
            by_cases h : 6180 * lo.toNat ≤ j ∧ j < 6180 * lo.toNat + 6180
            · rw [if_pos h]
              exact hcsb _ (by omega)
            · rw [if_neg h]
              exact rx_sc0 hR 0 0
          have he' : rx_cell cl tys r ad xa (.inr (0, 12360, .inl (rx_n 0), ob.map (fun q => (6180 * lo.toNat + q.1, q.2)))) (.inl (cA, 12360, .inl (rx_imf f g (6180 * lo.toNat) 6180))) := by
            refine ⟨cA, ta, _, rfl, hta, ⟨_, rfl⟩, fun j hj => ?_⟩
            show rx_ok r ad xa (rx_gt (ob.map (fun q => (6180 * lo.toNat + q.1, q.2))) (.inl (rx_n 0)) j) (.int (rx_imf f g (6180 * lo.toNat) 6180 j))
            rw [hgt j, rx_imf]
            by_cases h : 6180 * lo.toNat ≤ j ∧ j < 6180 * lo.toNat + 6180
            · rw [if_pos h, if_pos h]
              exact helb _ (by omega)
            · rw [if_neg h, if_neg h]
              exact hela j hj
          have hl2 : lv_has ls1 M.2.2.1 (rx_lvs r ad xa ((2, rx_n 6180) :: rx_del lv 2)) := by
            show lv_has ls1 M.2.2.1 ((2, rx_iv r ad xa (rx_n 6180)) :: rx_lvs r ad xa (rx_del lv 2))
            rw [rx_n_iv hR.1, show Int32.ofInt 6180 = nI 6180 from by decide +kernel]
            exact hl1
          have hW1 := rx_W_set hK hl hcl hx' he' hP1 hD1 hS1
          refine rx_at (K _ List.mem_cons_self) rx_same.rf rx_sameA.rf ⟨hR.1, hR.2.1, hR.2.2.1, hW1, hl2, fun y hy => ?_, fun y hy => absurd hy List.not_mem_nil⟩ rfl rfl rfl rfl (Nat.le_refl _) (by show ht.length ≤ (ht.set a _).length; rw [List.length_set]; exact Nat.le_refl _)
          show rx_sc I.length (ht.set a _).length y.2
          rw [List.length_set]
          rcases List.mem_cons.mp hy with h | h
          · subst h
            exact rx_sc0 hR 0 6180
          · exact rx_lvsc hR y (hdel y h)
        · cases hz
      · cases hz
    · cases hz
  · cases hz
end RXI
