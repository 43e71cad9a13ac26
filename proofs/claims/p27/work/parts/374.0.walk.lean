noncomputable def rzR0 (L : Nat) (xs : Nat → Int32) : Nat → Int := fun n => match n with
  | 0 => 0
  | 1 => (L : Int)
  | j + 2 => (xs j).toInt
theorem rz_sat0 {L : Nat} {xs : Nat → Int32} (hL : L ≤ 3072) : ry_sat ryI0 (rzR0 L xs) := by
  refine ⟨rfl, by decide, fun n lo hi h => ?_⟩
  match n, h with
  | 0, h =>
    cases h
    exact ⟨Int.le_refl _, Int.le_refl _⟩
  | 1, h =>
    cases h
    exact ⟨Int.natCast_nonneg L, Int.ofNat_le.mpr hL⟩
  | 2, h => cases h; exact ry_b32 _
  | 3, h => cases h; exact ry_b32 _
  | 4, h => cases h; exact ry_b32 _
  | 5, h => cases h; exact ry_b32 _
  | 6, h => cases h; exact ry_b32 _
  | 7, h => cases h; exact ry_b32 _
  | _ + 8, h => cases h
theorem lz_d15 : decode code 15 = .ok (.astore_n 2, 1) := by decide +kernel
theorem lz_d16 : decode code 16 = .ok (.iconst 0, 1) := by decide +kernel
theorem lz_d17 : decode code 17 = .ok (.istore_n 3, 1) := by decide +kernel
theorem rz_hstr {A : Nat → Prop} {adT avT : Nat → Nat} {ad0 : Nat → Nat} : rx_hstr (rzPX A adT avT) A (fun n => if n < 522 then ad0 n else adT (n - 522)) (fun n => avT (n - 522)) := fun U hU k h1 h2 => by
  obtain ⟨i, rfl⟩ : ∃ i : Nat, k = 522 + (i : Int) := ⟨(k - 522).toNat, by omega⟩
  have e : (522 + (i : Int)).toNat = 522 + i := by omega
  rw [e]
  dsimp only
  rw [if_neg (by omega), show 522 + i - 522 = i by omega]
  exact (hU.2 i (by omega)).1
theorem rz_hstr3 {A : Nat → Prop} {adT avT : Nat → Nat} {ad0 : Nat → Nat} : rx_hstr3 (rzPX A adT avT) A (fun n => if n < 522 then ad0 n else adT (n - 522)) (fun n => avT (n - 522)) := fun U hU k h1 h2 => by
  obtain ⟨i, rfl⟩ : ∃ i : Nat, k = 522 + (i : Int) := ⟨(k - 522).toNat, by omega⟩
  have e : (522 + (i : Int)).toNat = 522 + i := by omega
  rw [e]
  dsimp only
  rw [if_neg (by omega), show 522 + i - 522 = i by omega]
  exact hU.2 i (by omega)
theorem rz_hsl {A : Nat → Prop} {adT avT : Nat → Nat} {ad0 : Nat → Nat} : ∀ s : State, rzPX A adT avT s → ∀ o idx n : Nat, rxSl o idx = some n → ∃ tx : String, vk_R (rxNm o) idx tx ((fun n => if n < 522 then ad0 n else adT (n - 522)) n) s := fun s hs o idx n hn => by
  obtain ⟨h1, tx, h2⟩ := hs.1 o idx n hn
  refine ⟨tx, ?_⟩
  dsimp only
  rw [if_neg (by omega)]
  exact h2
theorem rz_W0t {Dg : va_G} {A : Nat → Prop} {s : State} {xa : Nat → Nat} {N : Nat} {r : Nat → Int} {ad ad_p : Nat → Nat} {H : Heap} (ha : ∀ k, k < 522 → ad_p k = ad k) (h : ry_W0 Dg vwCl A s xa N ryH r ad H) : ry_W0 Dg vwCl A s xa N ryH r ad_p H := by
  obtain ⟨ws, tys, hK, hP, hD, hl, hc⟩ := h
  refine ⟨ws, tys, hK, hP, hD, hl, fun k x hk => ?_⟩
  obtain ⟨h1, e, h2, h3⟩ := hc k x hk
  have hk2 : k < 522 := by
    have := (List.getElem?_eq_some_iff.mp hk).1
    rw [rzLen] at this
    exact this
  exact ⟨h1, e, by rw [ha k hk2]; exact h2, ry_cell_ext h3 h1 ry_same.rf (fun n hn => ha n (by rw [rzLen] at hn; exact hn))⟩
set_option maxHeartbeats 2000000 in
theorem whole_start {p : Program} {e : Env} {s : State} {m : MethodId} {below : List Frame} {meth : Method} {c : Code} (l : Launch) (hflags : l.flags = flags0) {b L : Nat} {xs : Nat → Int32} (hL : L ≤ 3072) (C0 : lw_At p s m meth c b L xs) : W p l e room_1 s m #[Value.ref b] below meth c s.heap [] 0 0 (lw_Z below #[Value.ref b] s) (entryFrame m ([Value.ref b] : List Value).toArray 4) := by
  obtain ⟨adT, avT, hP⟩ := rzStart C0.2.2.2.2.2.2.2.2.2 C0.2.2.2.2.2.1
  obtain ⟨hx, hb, hr, hml, hown, hts, hX, hbl, hlk, hgv⟩ := id C0
  have htsG : ∀ w ∈ ryG, w.before #[Value.ref b] s = true := fun w hw => hts w (List.mem_filter.mp hw).1
  have hcls : ∀ ci : Nat, ∃ (cC : ClassId) (iS : Nat → Nat), ∀ q, vwCl[ci]? = some q → u_Kn s q.1 q.2.1 q.2.2 cC iS := by
    intro ci
    cases hq : vwCl[ci]? with
    | none => exact ⟨m.cls, fun _ => 0, fun q h => by cases h⟩
    | some q =>
      obtain ⟨h1, h2⟩ := ryCls_ok q (List.mem_of_getElem? hq)
      obtain ⟨cC, iS, h3⟩ := u_known htsG h1 (htsG _ h2)
      exact ⟨cC, iS, fun q_p h => by cases h; exact h3⟩
  obtain ⟨f1, hf1⟩ := Classical.axiomOfChoice hcls
  obtain ⟨f2, hf2⟩ := Classical.axiomOfChoice hf1
  have hK : va_K (f1, f2) vwCl [] s := ⟨fun k q hq => hf2 k q hq, fun k q h => by cases h⟩
  have hF : ry_Fr ryG ryNW ryAO (fun _ => True) p s m #[Value.ref b] meth c ryMlaw := ⟨hx, hb, hr, hml, hown, hlk, htsG, fun w hw => va_Nw.of (ryNW_ok w hw).1 (hts w (ryNW_in w hw)), fun C hC => va_AO.of (hts _ (ryAO_in C hC)), trivial, fun h => by cases h⟩
  have hl := lv_entry [Value.ref b] (n := 4) (by show 1 ≤ 4; decide)
  rw [lg_entry_eq]
  generalize (lg_sl [Value.ref b] ++ List.replicate (4 - (lg_sl [Value.ref b]).length) Slot.unset).toArray = ls at hl ⊢
  have hW : ry_W (f1, f2) vwCl (lz_A s) s (fun _ => b) 8 [] (rzR0 L xs) (fun _ => 0) s.heap s.heap [] :=
    ⟨[], [], hK, (fun k q h => by cases h), ⟨fun i j p q h => (by cases h), fun k q h => by cases h⟩, va_S.rf, rfl, fun k x h => by cases h⟩
  have hR0 : ry_R (f1, f2) vwCl (lz_A s) s (fun _ => b) 4 s.heap ryZ0 (rzR0 L xs) (fun _ => 0) s.heap [] ls :=
    ⟨rz_sat0 hL, fun f h => absurd h List.not_mem_nil, fun f h => absurd h List.not_mem_nil, hW, hl, fun q hq => by
      rw [List.mem_singleton.mp hq]
      exact (by decide : 0 < 8), fun v h => absurd h List.not_mem_nil⟩
  have hscr : ry_Scr true (lz_A s) s (fun _ => b) s.heap (rzR0 L xs) := fun _ => ⟨L, xs, hX, hbl, Nat.not_le.mpr hbl, rfl, fun j _ => by
    rw [Nat.add_comm]
    rfl⟩
  have hPXy : ry_PXOK ryNW (lz_A s) (fun _ => True) := ⟨ryNW_ok, fun _ _ _ _ _ => trivial, fun _ _ _ _ _ => trivial⟩
  refine ry_sgW (ct := ryCT) (mo := ryMo) ryCT_ok ryMo_ok ryGgood hPXy ryFr_ok ryCr_ok ryAr_ok ryKc_ok ryAc_ok ryMl_ok ryCj_ok (ryXh_ok (lz_A s) (fun _ => b) _ l (f1, f2)) 10000 12 14 true ryMlaw ryZ0 [ryZ15] rfl (ry_isZ_ok ry_start) rfl hF (fun q h => h) rfl (by decide) (by decide) (by decide) (by decide) hscr hR0 ?_
  intro z_p hz_p r_p ad_p H_p locs_p ls_p hN hM hsr hsa hR_p
  rw [List.mem_singleton.mp hz_p] at hR_p ⊢
  obtain ⟨hsat, -, -, hWy, hlv, -, -⟩ := hR_p
  obtain ⟨hW0, hS⟩ := hWy.to0
  have hr0 : r_p 0 = 0 := hsat.1
  have hPX := rzPX_OK (lz_A s) adT avT
  have hC : ∀ (j : Nat) (ct : bx_Ct) (M : rx_Mt), ct ∈ rxCn j → rxT.2.2.2.2.2 j = some M → bx_Con rxG rxNW rxAO (rzPX (lz_A s) adT avT) (f1, f2) rxL rxX vwCl (lz_A s) (fun n => if n < 522 then ad_p n else adT (n - 522)) l M ct := fun j ct M hct hM => rxEvery (av := fun n => avT (n - 522)) hPX rz_hsl rz_hstr _ j ct M hct (Nat.le_refl _) hM
  have hLF : lz_F p l s m meth c b L xs (f1, f2) (rzPX (lz_A s) adT avT) (fun n => if n < 522 then ad_p n else adT (n - 522)) := ⟨C0, hL, hPX, hP, hC, rz_hsl, fun n => avT (n - 522), rz_hstr, rz_hstr3⟩
  have hend : ∀ i : Nat, lz_G lzK p l e s m below meth c (lw_Z below #[Value.ref b] s) b (f1, f2) (fun n => if n < 522 then ad_p n else adT (n - 522)) (lz_lv b (fun n => if n < 522 then ad_p n else adT (n - 522)) i) (1824 + 6) [] := fun i H locs ls hW hl => by
    obtain ⟨S, -, -, -, hS⟩ := hW
    refine lv_iconst hx hb lz_d1830 rfl ?_
    exact va_forget hS.2.2 (W.widen (by decide) (by decide) (lw_ret hx hb hr hlk lz_d1831))
  have hgo := lz_loop hLF hend (fun i hi kk => lz_cases hLF hi kk) (L + 1) 0 (by decide) (by omega)
  have hlv : lv_has ls_p 4 [(1, .ref (ad_p 0)), (0, .ref b)] := hlv
  have hWb : lz_W lzK (f1, f2) s (fun n => if n < 522 then ad_p n else adT (n - 522)) H_p locs_p := ⟨rzS, rzX, lzKst, rz_W0 hr0 (rz_W0t (fun k hk => if_pos hk) hW0), hS⟩
  show W p l e room_1 s m #[Value.ref b] below meth c H_p locs_p 522 48932 (lw_Z below #[Value.ref b] s) (F0 m 15 ls_p [.ref (ad_p 480)])
  refine lv_astore_n hx hb lz_d15 rfl hlv (by decide) rfl fun ls1 hl1 => ?_
  refine lv_iconst (v := Int32.ofInt 0) hx hb lz_d16 rfl ?_
  refine lv_istore_n hx hb lz_d17 rfl hl1 (by decide) rfl fun ls2 hl2 => ?_
  exact hgo H_p locs_p ls2 hWb hl2
