/-! THE BOX MACHINE: an entry of a row is written, by hand -/
section BXST
variable {p : Program} {l : Launch} {e : Env} {R : Room} {s : State} {m : MethodId} {args : Array Value} {below : List Frame} {meth : Method} {c : Code} {Q : State → Prop}
variable {Dg : va_G} {L : bx_L} {cl : List vw_C} {A : Nat → Prop} {xa : Nat → Nat} {nL : Nat} {H0 H : Heap} {locs : List Loc} {ls : Array Slot} {r : Nat → Int} {ad : Nat → Nat}
variable {cc : ByteArray} {z : rx_Z} {V : bx_V} {S : Nat → Int → Int} {md : Nat → Nat → Bool}
/-- where nothing is written down yet, the slots are those of the start -/
theorem bx_noE_eq {N : Nat} {S_p : Nat → Int → Int} : ∀ {ht : List rx_C}, bx_noE ht = true → bx_chain L N r S ht S_p → S_p = S
  | [], _, h => h
  | a :: t, hne, hc => by
    have hne : (!(bx_isE a) && bx_noE t) = true := hne
    rw [Bool.and_eq_true, Bool.not_eq_true'] at hne
    rcases bx_chain_cases hc with ⟨-, h3⟩ | ⟨h3, -⟩
    · exact bx_noE_eq hne.2 h3
    · rw [hne.1] at h3
      exact absurd h3 Bool.false_ne_true
theorem bx_noE_filter {g : rx_C → Bool} : ∀ {ht : List rx_C}, bx_noE ht = true → bx_noE (ht.filter g) = true := fun {ht} h => List.all_eq_true.mpr fun q hq => List.all_eq_true.mp h q (List.mem_filter.mp hq).1
theorem bx_storeI {dmf : Nat → Int → Bool} {v : rx_V} {ix e0 : rx_E} {t : List rx_V} {d : Option Nat} {n g : Nat} {lo hi : Int} {ty : bx_T} (hexec : p.tables.exec = Jvm.exec) (hb : c.code = cc) (hlg : bx_lg md = true) (hV : bx_VOK L V) (hdm : dmf = L.2.2.2) (hdg : decode cc (rx_zpc z) = .ok (.iastore, 1)) (hne : bx_noE z.2.2.1 = true)
    (hR : rx_R (Dg, L, S, md) cl A s xa nL H0 z r ad H locs ls) (hst : rx_zst z = v :: .inr (0, ix) :: .inr (3, e0) :: t) (hd : bx_dm z.2.2.1 e0.1 = some d) (hk : V.1 d e0.2 = some (.inr (0, n, g))) (hbi : rx_bi z.1 ix = some (lo, hi)) (c3 : 0 ≤ lo) (c4 : hi < (n : Int)) (c5 : bx_fits dmf z.1 z.2.2.1 0 e0.1 ty v = true)
    (hokT : bx_okT L (L.2.2.1 (rx_ev r e0).toNat (rx_ev r ix)) (bx_num r v))
    (K : ∀ (H1 : Heap) (locs1 : List Loc), rx_R (Dg, L, bx_up S (rx_ev r e0).toNat (rx_ev r ix) (bx_num r v), md) cl A s xa nL H0 (rx_nxh (z.2.2.1.filter (bx_keepR V z.2.2.1 lo hi g)) z 1 t) r ad H1 locs1 ls → W p l e R s m args below meth c H1 locs1 z.2.2.2.1 z.2.2.2.2.1 Q (F0 m (rx_zpc z + 1) ls (t.map (rx_iv r ad xa)))) :
    W p l e R s m args below meth c H locs z.2.2.2.1 z.2.2.2.2.1 Q (F0 m (rx_zpc z) ls ((rx_zst z).map (rx_iv r ad xa))) := by
  subst hdm
  obtain ⟨S_p, ⟨ws, tys, hInv, hK, hP, hD, hl, hcell⟩, hS, ⟨-, hch⟩, hkn⟩ := id hR.2.2.2.1
  have eS : S_p = S := bx_noE_eq hne (hch hlg)
  subst eS
  have hInv : bx_Inv L S_p := hInv
  have hin := bx_dm_ok hR.1 hkn hd
  obtain ⟨p1, p2, p3⟩ := hV.1 d e0.2 _ hk _ hin
  have p2 : (rx_ev r e0).toNat < L.2.1 := p2
  have p3 : L.1 (rx_ev r e0).toNat = .inr (0, n, g) := p3
  obtain ⟨c0, hw, hce⟩ := hcell _ p2
  have hce : bx_cell cl tys ad (L.1 (rx_ev r e0).toNat) (S_p (rx_ev r e0).toNat) c0 := hce
  rw [p3] at hce
  obtain ⟨cA, t0, x, hc0, htys, hsh, hel⟩ := hce
  subst hc0
  obtain ⟨i1, i2, i3, i4, i5⟩ := rx_ixIn hR.1 hbi c3 c4
  have hsc := rx_stsc hR
  rw [hst] at hsc ⊢
  have hvsc : rx_sc z.1.length 0 v := rx_sc.any (hsc _ List.mem_cons_self)
  have hjn : (rx_ev r ix).toNat < n := by omega
  have hjz : (((rx_ev r ix).toNat : Nat) : Int) = rx_ev r ix := by omega
  obtain ⟨n1, n2, n3⟩ := bx_fits_ok (D := (Dg, L, S_p, md)) (ad := ad) (xa := xa) hR.1 hkn c5
  have hwlen : (rx_ev r e0).toNat < ws.length := by
    rw [hl]
    exact p2
  have hkf : bx_kns (Dg, L, S_p, md) ad xa (bx_up S_p (rx_ev r e0).toNat (rx_ev r ix) (bx_num r v)) z.1.length (z.2.2.1.filter (bx_keepR V z.2.2.1 lo hi g)) r := fun y hy => bx_keepR_ok (D := (Dg, L, S_p, md)) hV hR.1 hkn p3 i3 i4 hy
  obtain ⟨f, hf⟩ := hsh
  subst hf
  obtain ⟨y, hy⟩ := bx_fv_int n1
  show W p l e R s m args below meth c H locs z.2.2.2.1 z.2.2.2.2.1 Q (F0 m (rx_zpc z) ls (rx_iv r ad xa v :: .int (Int32.ofInt (rx_ev r ix)) :: .ref (ad (rx_ev r e0).toNat) :: t.map (rx_iv r ad xa)))
  rw [hy]
  refine va_iast hexec hb hK hP hD hS (rx_ev r e0).toNat t0 hw htys i1 hdg fun H1 locs1 hP1 hD1 hS1 => ?_
  refine K H1 locs1 ⟨hR.1, hR.2.1, hR.2.2.1, ⟨bx_up S_p (rx_ev r e0).toNat (rx_ev r ix) (bx_num r v), ⟨_, tys, ?_, hK, hP1, hD1, by rw [List.length_set]; exact hl, ?_⟩, hS1, ⟨fun _ _ _ _ _ => rfl, fun _ => bx_noE_chain (bx_noE_filter hne)⟩, hkf⟩, hR.2.2.2.2.1, fun q hq => rx_sc.any (hR.2.2.2.2.2.1 q hq), fun w hw => rx_sc.any (hsc w (List.mem_cons_of_mem _ (List.mem_cons_of_mem _ (List.mem_cons_of_mem _ hw))))⟩
  · intro p_p j_p hp' hj'
    by_cases hpj : p_p = (rx_ev r e0).toNat ∧ (j_p : Int) = rx_ev r ix
    · obtain ⟨h1, h2⟩ := hpj
      subst h1
      rw [h2, bx_up_at]
      exact hokT
    · rw [bx_up_ne hpj]
      exact hInv p_p j_p hp' hj'
  · intro p_p hp'
    by_cases hpe : p_p = (rx_ev r e0).toNat
    · subst hpe
      refine ⟨_, List.getElem?_set_self hwlen, ?_⟩
      show bx_cell cl tys ad (L.1 (rx_ev r e0).toNat) _ _
      rw [p3]
      refine ⟨cA, t0, _, rfl, htys, ⟨_, rfl⟩, fun j hj => ?_⟩
      show Value.int (upd f (Int32.ofInt (rx_ev r ix)).toNatClampNeg y j) = _
      rw [i2]
      unfold upd
      by_cases hji : j = (rx_ev r ix).toNat
      · rw [if_pos hji, hji, hjz, bx_up_at, ← n1, hy]
      · rw [if_neg hji, bx_up_ne (fun h => hji (by omega))]
        exact hel j hj
    · obtain ⟨e1, h1, h2⟩ := hcell p_p hp'
      refine ⟨e1, by
        rw [List.getElem?_set_ne (Ne.symm hpe)]
        exact h1, ?_⟩
      show bx_cell cl tys ad (L.1 p_p) (bx_up S_p (rx_ev r e0).toNat (rx_ev r ix) (bx_num r v) p_p) e1
      rw [bx_up_row hpe]
      exact h2
end BXST
