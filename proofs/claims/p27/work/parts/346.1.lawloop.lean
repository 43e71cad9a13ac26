noncomputable abbrev lz_A (s : State) : Nat → Prop := fun q => s.heap.size ≤ q
noncomputable def lz_F (p : Program) (l : Launch) (s : State) (m : MethodId) (meth : Method) (c : Code) (b L : Nat) (xs : Nat → Int32) (Dg : va_G) (PX : State → Prop) (ad : Nat → Nat) : Prop :=
  lw_At p s m meth c b L xs ∧ L ≤ 3072 ∧ rx_PXOK rxNW (lz_A s) PX ∧ PX s ∧ (∀ (j : Nat) (ct : bx_Ct) (M : rx_Mt), ct ∈ rxCn j → rxT.2.2.2.2.2 j = some M → bx_Con rxG rxNW rxAO PX Dg rxL rxX vwCl (lz_A s) ad l M ct) ∧ (∀ s_p : State, PX s_p → ∀ o idx n : Nat, rxSl o idx = some n → ∃ tx : String, vk_R (rxNm o) idx tx (ad n) s_p) ∧ ∃ av : Nat → Nat, rx_hstr PX (lz_A s) ad av ∧ rx_hstr3 PX (lz_A s) ad av
noncomputable abbrev lz_KT : Type := (Nat → Int → Int) → Prop
noncomputable def lz_W (K : lz_KT) (Dg : va_G) (s : State) (ad : Nat → Nat) (H : Heap) (locs : List Loc) : Prop := ∃ S : Nat → Int → Int, rxX S ∧ K S ∧ bx_W0 (Dg, rxL, S, fun _ _ => false) vwCl (lz_A s) s ad S H ∧ va_S (lz_A s) s.heap H locs
noncomputable def lz_G (K : lz_KT) (p : Program) (l : Launch) (e : Env) (s : State) (m : MethodId) (below : List Frame) (meth : Method) (c : Code) (Q : State → Prop) (b : Nat) (Dg : va_G) (ad : Nat → Nat) (lv : List (Nat × Value)) (pc : Nat) (st : List Value) : Prop :=
  ∀ (H : Heap) (locs : List Loc) (ls : Array Slot), lz_W K Dg s ad H locs → lv_has ls 4 lv → W p l e room_1 s m #[Value.ref b] below meth c H locs 522 48932 Q (F0 m pc ls st)
noncomputable def lz_lv (b : Nat) (ad : Nat → Nat) (i : Nat) : List (Nat × Value) := [(3, .int (Int32.ofInt (i : Int))), (2, .ref (ad 480)), (1, .ref (ad 0)), (0, .ref b)]
theorem lz_int {z : Nat} (h : z ≤ 2147483647) : (Int32.ofInt (z : Int)).toInt = (z : Int) := rx_i32 (by omega) (by omega)
theorem lz_nat {z : Nat} (h : z ≤ 2147483647) : (Int32.ofInt (z : Int)).toNatClampNeg = z := by
  show (Int32.ofInt (z : Int)).toInt.toNat = z
  rw [lz_int h]
  rfl
noncomputable def lz_ad : Nat → Nat → Nat → Bool
  | 0, _, _ => true
  | k + 1, j, pc => rx_a0 code pc 42 && (rx_a0 code (pc + 1) 29 && (rx_ac code (pc + 2) (j : Int) && (rx_a0 code (pc + 3) 96 && (rx_a0 code (pc + 4) 46 && lz_ad k (j + 1) (pc + 5)))))
noncomputable def lz_xs (xs : Nat → Int32) : Nat → Nat → List Value
  | 0, _ => []
  | k + 1, a => .int (xs a) :: lz_xs xs k (a + 1)
theorem lz_xs_len {xs : Nat → Int32} : ∀ {k a : Nat}, (lz_xs xs k a).length = k
  | 0, _ => rfl
  | k + 1, a => congrArg (· + 1) lz_xs_len
noncomputable def lz_ints : List (Nat × bx_T) → Nat → Bool
  | [], 0 => true
  | (0, (0, lo, hi)) :: l, k + 1 => decide (lo ≤ -2147483648) && (decide (2147483647 ≤ hi) && lz_ints l k)
  | _, _ => false
noncomputable def lz_tw (w : Bool) : Nat := match w with
  | true => 2
  | false => 0
noncomputable def lz_cw (w : Bool) : Nat := match w with
  | true => 2
  | false => 1
noncomputable def lz_ct (w : Bool) (ct : bx_Ct) (q k : Nat) : Bool := match ct with
  | ((3, (1, q_p, _)) :: as, some (tc, _), _, _, []) => decide (q_p = (q : Int)) && (decide (tc = lz_tw w) && lz_ints as k)
  | _ => false
theorem lz_ints_ok {ad : Nat → Nat} {xs : Nat → Int32} : ∀ {as : List (Nat × bx_T)} {k a : Nat}, lz_ints as k = true → bx_argOK rxL ad as (lz_xs xs k a)
  | [], 0, _, _ => rfl
  | [], k + 1, _, h => absurd (show false = true from h) Bool.false_ne_true
  | x :: l, 0, _, h => by
    unfold lz_ints at h
    split at h
    · rename_i h1 h2
      cases h1
    · rename_i h1 h2
      cases h2
    · cases h
  | x :: l, k + 1, a, h => by
    unfold lz_ints at h
    split at h
    · rename_i h1 h2
      cases h1
    · rename_i lo hi l_p k_p h1 h2
      cases h1
      cases h2
      rw [Bool.and_eq_true, Bool.and_eq_true, decide_eq_true_eq, decide_eq_true_eq] at h
      obtain ⟨g1, g2, g3⟩ := h
      have hb := rx_b32 (xs a)
      refine ⟨(xs a).toInt, lz_xs xs k (a + 1), ?_, (show lo ≤ (xs a).toInt ∧ (xs a).toInt ≤ hi from ⟨by omega, by omega⟩), lz_ints_ok g3⟩
      show Value.int (xs a) :: lz_xs xs k (a + 1) = Value.int (Int32.ofInt (xs a).toInt) :: lz_xs xs k (a + 1)
      rw [Int32.ofInt_toInt]
    · cases h
noncomputable def lz_ci (q : Nat) : Nat := if q = 0 then 11 else 12
theorem lz_kd {q : Nat} (hq : q = 0 ∨ q = 480) : q < rxL.2.1 ∧ ∃ tcs, rxL.1 q = .inl (lz_ci q, tcs) := by
  rcases hq with rfl | rfl
  · exact ⟨by decide, _, rfl⟩
  · exact ⟨by decide, _, rfl⟩
noncomputable def lz_C (idx q k j : Nat) (M : rx_Mt) : Prop := ∃ (F : u_T) (N : Nat), rxT.2.2.2.2.2 j = some M ∧ Jvm.Cond.methodLink R_law idx M.2.2.2.2.1 ∈ rxG ∧ Jvm.Cond.instanceMethod M.2.2.2.2.1 ∈ rxG ∧ Jvm.Cond.selects M.2.2.2.2.1.cls M.2.2.2.2.1 M.2.2.2.2.1 ∈ rxG ∧
  (parseMethodDescriptor M.2.2.2.2.1.desc).map (fun d => d.parameters.length) = some k ∧ (M.2.2.2.2.2.2.1 = 0 ∧ M.2.2.2.2.2.2.2 = 0) ∧ M.2.2.1 ≤ 1000 ∧ vwCl[lz_ci q]? = some (M.2.2.2.2.1.cls, F, N)
noncomputable def lz_M (l : Launch) (s : State) (Dg : va_G) (PX : State → Prop) (ad : Nat → Nat) (M : rx_Mt) (d q : Nat) (As : List Value) (K : lz_KT) (PR : Value → Prop) (K_p : Value → lz_KT) : Prop :=
  ∀ S : Nat → Int → Int, rxX S → bx_Inv rxL S → K S → ∃ Qc : Array Value → State → Outcome → State → Prop, Met l M.2.2.2.2.1 (Jvm.Cond.code M.2.2.2.2.1 M.2.1 M.2.2.1 M.2.2.2.1 :: rxG) { frames := d, cells := M.2.2.2.2.2.2.1, slots := M.2.2.2.2.2.2.2, locals := d * 40 } (va_Pc (.ref (ad q) :: As) (bx_PreC rxNW rxAO PX Dg rxL vwCl (lz_A s) ad S)) Qc M.2.2.2.2.2.2.1 M.2.2.2.2.2.2.2 (lz_A s) ∧
    ∀ x st oc t, Qc x st oc t → (∃ (S_p : Nat → Int → Int) (v : Value), oc = .returned (some v) ∧ PR v ∧ K_p v S_p ∧ rxX S_p ∧ bx_W0 (Dg, rxL, S_p, fun _ _ => false) vwCl (lz_A s) t ad S_p t.heap) ∧ va_F (lz_A s) st t
section LZ
variable {p : Program} {l : Launch} {e : Env} {s : State} {m : MethodId} {below : List Frame} {meth : Method} {c : Code} {Q : State → Prop} {b L : Nat} {xs : Nat → Int32} {Dg : va_G} {PX : State → Prop} {ad : Nat → Nat}
theorem lz_args (hF : lz_F p l s m meth c b L xs Dg PX ad) {K : lz_KT} {i : Nat} (hi : i + 6 ≤ L) : ∀ (k j pc : Nat) (rest : List Value), lz_ad k j pc = true → j + k ≤ 6 → lz_G K p l e s m below meth c Q b Dg ad (lz_lv b ad i) (pc + 5 * k) ((lz_xs xs k (i + j)).reverse ++ rest) → lz_G K p l e s m below meth c Q b Dg ad (lz_lv b ad i) pc rest := by
  intro k
  induction k with
  | zero =>
    intro j pc rest _ _ h
    rw [Nat.mul_zero, Nat.add_zero] at h
    exact h
  | succ k ihk =>
    intro j pc rest hd hj h
    rw [lz_ad, Bool.and_eq_true, Bool.and_eq_true, Bool.and_eq_true, Bool.and_eq_true, Bool.and_eq_true] at hd
    obtain ⟨d1, d2, d3, d4, d5, d6⟩ := hd
    have d1 := rx_d_aload_n (k := 0) d1
    have d2 := rx_d_iload_n (k := 3) d2
    have d3 := rx_d_iconst d3
    have d4 := rx_d_iadd d4
    have d5 := rx_d_iaload d5
    obtain ⟨⟨hx, hb, -, -, -, -, hX, hbl, -⟩, hL, -⟩ := id hF
    have ih := ihk (j + 1) (pc + 5) (.int (xs (i + j)) :: rest) d6 (by omega) (by
      rw [show pc + 5 * (k + 1) = pc + 5 + 5 * k by omega] at h
      have e : (lz_xs xs (k + 1) (i + j)).reverse ++ rest = (lz_xs xs k (i + (j + 1))).reverse ++ (.int (xs (i + j)) :: rest) := by
        show (Value.int (xs (i + j)) :: lz_xs xs k (i + j + 1)).reverse ++ rest = _
        rw [List.reverse_cons, List.append_assoc]
        rfl
      rw [e] at h
      exact h)
    intro H locs ls hW hl
    obtain ⟨S, -, -, -, hS⟩ := id hW
    refine lv_aload_n hx hb d1 rfl (lv_at hl 3 rfl) ?_
    refine lv_iload_n hx hb d2 rfl (lv_at hl 0 rfl) ?_
    refine lv_iconst hx hb d3 rfl ?_
    refine lv_iadd hx hb d4 ?_
    rw [← Int32.ofInt_add, ← Int.natCast_add]
    refine va_sld hx hb hX hbl (Nat.not_le.mpr hbl) hS ?_ d5 ?_
    · refine vp_in_iff.mpr ?_
      rw [lz_int (by omega)]
      omega
    · rw [lz_nat (by omega)]
      exact ih H locs ls hW hl
theorem lz_call (hF : lz_F p l s m meth c b L xs Dg PX ad) {lv : List (Nat × Value)} {pc idx q n d j : Nat} {M : rx_Mt} {F : u_T} {N : Nat} {As rest : List Value} {K : lz_KT} {PR : Value → Prop} {K_p : Value → lz_KT} (hj : rxT.2.2.2.2.2 j = some M) (w1 : Jvm.Cond.methodLink R_law idx M.2.2.2.2.1 ∈ rxG) (w2 : Jvm.Cond.instanceMethod M.2.2.2.2.1 ∈ rxG) (w3 : Jvm.Cond.selects M.2.2.2.2.1.cls M.2.2.2.2.1 M.2.2.2.2.1 ∈ rxG)
    (hp : (parseMethodDescriptor M.2.2.2.2.1.desc).map (fun d => d.parameters.length) = some n) (hz : M.2.2.2.2.2.2.1 = 0 ∧ M.2.2.2.2.2.2.2 = 0) (hml : M.2.2.1 ≤ 1000) (hd : d ≤ 100) (hcl : vwCl[lz_ci q]? = some (M.2.2.2.2.1.cls, F, N)) (hq : q = 0 ∨ q = 480) (hn : As.length = n) (hrest : (rest.map fun v => v.category).sum ≤ 8)
    (hdg : decode code pc = .ok (.invokevirtual idx, 3)) (hM : lz_M l s Dg PX ad M d q As K PR K_p) (kk : ∀ v : Value, PR v → lz_G (K_p v) p l e s m below meth c Q b Dg ad lv (pc + 3) (v :: rest)) : lz_G K p l e s m below meth c Q b Dg ad lv pc (As.reverse ++ .ref (ad q) :: rest) := by
  intro H locs ls hW hl
  obtain ⟨S, hX0, hK0, hW0, hS⟩ := hW
  obtain ⟨Qc, hMet, hQ⟩ := hM S hX0 (by obtain ⟨ws, tys, hI, -⟩ := hW0; exact hI) hK0
  obtain ⟨⟨hx, hb, hr, hm4, hown, hts, -, hbl, -⟩, hL, hPX, hP, -⟩ := id hF
  have htsG : ∀ w ∈ rxG, w.before #[Value.ref b] s = true := fun w hw => hts w (List.mem_filter.mp hw).1
  obtain ⟨m1, m2, m3, m4, m5, m6⟩ := rxMl_ok _ _ hj
  have hGI : GoodIn rxG (Jvm.Cond.code M.2.2.2.2.1 M.2.1 M.2.2.1 M.2.2.2.1 :: rxG) := fun w hw => by
    rcases List.mem_cons.mp hw with h | h
    · subst h; exact ⟨m2, good_of_word (rxGgood _ m2)⟩
    · exact ⟨h, good_of_word (rxGgood _ h)⟩
  have CF : CallFix p m c code 4 s #[Value.ref b] rxG R_law := ⟨hx, hb, hm4, hown, htsG⟩
  have hdesc : ∀ sig, parseMethodDescriptor M.2.2.2.2.1.desc = some sig → n = sig.parameters.length := fun sig h => by
    rw [h] at hp
    exact (Option.some.inj hp).symm
  have hws : ∀ w ∈ (Jvm.Cond.code M.2.2.2.2.1 M.2.1 M.2.2.1 M.2.2.2.1 :: rxG), ∀ (a_p : Array Value) (U : State), s.WarmedH U.vm → w.before a_p U = true := pay_in htsG hGI
  have hblind : FrameBlind (va_Pc (.ref (ad q) :: As) (bx_PreC rxNW rxAO PX Dg rxL vwCl (lz_A s) ad S)) := fun a U g mk h => by
    obtain ⟨h0, h1, h2, h3, h4, h5⟩ := h
    exact ⟨h0, fun w hw => va_Nw.same (u := U) (U := U.calling g mk a) (hPX.1 w hw).1 rfl (h1 w hw), fun C hC => va_AO.moved (Vm.Alike.refl U.vm) (h2 C hC), hPX.2.1 U g mk a h3, h4.moved (U := U.calling g mk a) (Vm.Alike.refl U.vm), h5⟩
  have hpre : ∀ U : State, U.heap = H → s.WarmedH U.vm → va_Pc (.ref (ad q) :: As) (bx_PreC rxNW rxAO PX Dg rxL vwCl (lz_A s) ad S) (.ref (ad q) :: As).toArray U := fun U hU hWm => by
    refine ⟨rfl, fun w hw => (hPX.1 w hw).2 s U hWm (va_Nw.of (hPX.1 w hw).1 (hts w (rxNW_in w hw))), fun C hC => va_AO.moved hWm.alike (va_AO.of (hts _ (rxAO_in C hC))), hPX.2.2 s U hP hWm (fun a h1 h2 => ?_), ?_, fun q hq => ?_⟩
    · rw [hU]
      exact hS.2.1 a h1 h2
    · rw [hU]
      exact bx_W0_md (hW0.moved hWm.alike)
    · rw [hU] at hq
      exact Nat.le_trans hS.1 hq
  obtain ⟨k1, tcs, k2⟩ := lz_kd hq
  obtain ⟨ws, tys, hInv, hK, hPp, hD, hl2, hcell⟩ := id hW0
  obtain ⟨e0, hw, hce⟩ := hcell q k1
  have hce : bx_cell vwCl tys ad (rxL.1 q) (S q) e0 := hce
  rw [k2] at hce
  obtain ⟨vs, he0, -⟩ := hce
  subst he0
  have hrecv := va_recv hK hPp hcl hw
  have hpV : PreV s H M.2.2.2.2.1.cls (ad q) (va_Pc (.ref (ad q) :: As) (bx_PreC rxNW rxAO PX Dg rxL vwCl (lz_A s) ad S)) As := ⟨hblind, hrecv, hpre⟩
  have hrun := va_runV (l := l) (e := e) (R := room_1) (below := below) (meth := meth) (H := H) (locs := locs) (cells := 522) (slots := 48932) (g := F0 m pc ls (As.reverse ++ .ref (ad q) :: rest)) (rest := rest) CF hMet ⟨⟨rfl, rfl, (show d + 1 ≤ 2048 by omega), (show 8 + (M.2.2.1 + 11) + d * 40 ≤ 84000 by omega), hws, List.mem_cons_self, htsG _ m2, htsG _ m4, m5, hdesc, htsG _ w1⟩, htsG _ w2, htsG _ w3⟩ hpV rfl hn hl.1 rfl (lv_room hrest) hdg
    (by rw [hz.1, hz.2]; exact ⟨by decide, by decide⟩)
  refine rx_call hrun hS (fun _ _ _ h => (hQ _ _ _ _ h).2) fun v st tt H1 locs1 ht hst hvm hpost hS1 => ?_
  obtain ⟨⟨S_p, v_p, hov, hv_p, hK_p, hX_p, hW_p⟩, -⟩ := hQ _ _ _ _ hpost
  cases hov
  rw [ht] at hW_p
  rw [hz.1, hz.2]
  exact kk v_p hv_p H1 locs1 ls ⟨S_p, hX_p, hK_p, hW_p.moved hvm.symm, hS1⟩ hl
theorem lz_conM {K : lz_KT} {w : Bool} {M : rx_Mt} {ct : bx_Ct} {q k a : Nat} (h : bx_Con rxG rxNW rxAO PX Dg rxL rxX vwCl (lz_A s) ad l M ct) (hc : lz_ct w ct q k = true) (hK : ∀ S S_p : Nat → Int → Int, K S → bx_same rxL (bx_mdl ct.2.2.1) S S_p → K S_p) : lz_M l s Dg PX ad M ct.2.2.2.1 q (lz_xs xs k a) K (fun v => v.category = lz_cw w) (fun _ => K) := by
  intro S hX hI hk
  unfold lz_ct at hc
  split at hc
  · rename_i q_p x as tc t md dd
    rw [Bool.and_eq_true, Bool.and_eq_true, decide_eq_true_eq, decide_eq_true_eq] at hc
    obtain ⟨h1, h3, h2⟩ := hc
    subst h1
    refine ⟨_, h S _ hX ⟨(q : Int), lz_xs xs k a, ?_, (show (q : Int) = 0 + (q : Int) by omega), lz_ints_ok h2⟩ (fun q hq => absurd hq List.not_mem_nil), fun x st oc t hq => ?_⟩
    · rfl
    · obtain ⟨⟨S_p, rv, g1, g2, g3, g4, g5⟩, g6⟩ := hq
      obtain ⟨y, g7, -⟩ := g2
      refine ⟨⟨S_p, bx_fv ad tc y, by rw [g1, g7], ?_, hK S S_p hk g4, g5, bx_W0_md g3⟩, g6⟩
      rw [h3]
      cases w <;> rfl
  · cases hc
noncomputable def lz_ws (xs : Nat → Int32) : Nat → Nat → List Int
  | 0, _ => []
  | k + 1, a => (xs a).toInt :: lz_ws xs k (a + 1)
noncomputable def lz_fulls : Nat → List (Nat × bx_T)
  | 0 => []
  | k + 1 => (0, (0, (-2147483648), 2147483647)) :: lz_fulls k
theorem lz_fulls_ok {xs : Nat → Int32} {ad : Nat → Nat} : ∀ {k a : Nat}, bx_argIs rxL (lz_fulls k) (lz_ws xs k a) ∧ bx_avs ad (lz_fulls k) (lz_ws xs k a) = lz_xs xs k a
  | 0, _ => ⟨rfl, rfl⟩
  | k + 1, a => by
    obtain ⟨h1, h2⟩ := lz_fulls_ok (xs := xs) (ad := ad) (k := k) (a := a + 1)
    have hb := rx_b32 (xs a)
    refine ⟨⟨(xs a).toInt, lz_ws xs k (a + 1), rfl, (show (-2147483648 : Int) ≤ (xs a).toInt ∧ (xs a).toInt ≤ 2147483647 from ⟨by omega, by omega⟩), h1⟩, ?_⟩
    show Value.int (Int32.ofInt (xs a).toInt) :: bx_avs ad (lz_fulls k) (lz_ws xs k (a + 1)) = Value.int (xs a) :: lz_xs xs k (a + 1)
    rw [h2, Int32.ofInt_toInt]
theorem lz_conPM {K : lz_KT} {PR : Value → Prop} {K_p : Value → lz_KT} {M : rx_Mt} {ct : bx_Ct} {q k a tc : Nat} {P : (Nat → Int → Int) → List Int → Prop} {PS : (Nat → Int → Int) → List Int → (Nat → Int → Int) → Option Int → Prop} (h : bx_ConP rxG rxNW rxAO PX Dg rxL rxX vwCl (lz_A s) ad l M ct P PS) (h1 : ∃ x, ct.1 = (3, (1, (q : Int), x)) :: lz_fulls k) (h2 : ∃ t, ct.2.1 = some (tc, t)) (h3 : ct.2.2.2.2 = [])
    (hP : ∀ S, K S → bx_Inv rxL S → P S ((q : Int) :: lz_ws xs k a)) (hPS : ∀ (S0 S : Nat → Int → Int) (y : Int), K S0 → bx_Inv rxL S0 → bx_Inv rxL S → bx_same rxL (bx_mdl ct.2.2.1) S0 S → PS S0 ((q : Int) :: lz_ws xs k a) S (some y) → PR (bx_fv ad tc y) ∧ K_p (bx_fv ad tc y) S) : lz_M l s Dg PX ad M ct.2.2.2.1 q (lz_xs xs k a) K PR K_p := by
  intro S hX hI hk
  obtain ⟨x, h1⟩ := h1
  obtain ⟨t0, h2⟩ := h2
  obtain ⟨f1, f2⟩ := lz_fulls_ok (xs := xs) (ad := ad) (k := k) (a := a)
  have hargs : bx_argIs rxL ct.1 ((q : Int) :: lz_ws xs k a) := by
    rw [h1]
    exact ⟨_, _, rfl, (show (q : Int) = 0 + (q : Int) by omega), f1⟩
  have hav : bx_avs ad ct.1 ((q : Int) :: lz_ws xs k a) = .ref (ad q) :: lz_xs xs k a := by
    rw [h1]
    show Value.ref (ad (q : Int).toNat) :: bx_avs ad (lz_fulls k) (lz_ws xs k a) = Value.ref (ad q) :: lz_xs xs k a
    rw [f2, Int.toNat_natCast]
  have hm := h S _ hX hargs (by rw [h3]; exact fun q hq => absurd hq List.not_mem_nil) (hP S hk hI) _ (fun _ _ _ _ h => h)
  rw [hav] at hm
  refine ⟨_, hm, fun x st oc t hq => ?_⟩
  obtain ⟨⟨S_p, rv, g1, g2, g3, g4, g5, w, g6, g7⟩, g8⟩ := hq
  obtain ⟨y, y1, y2, -⟩ := g7 _ h2
  subst y1
  have hI_p : bx_Inv rxL S_p := by
    obtain ⟨ws, tys, hI_p, -⟩ := g3
    exact hI_p
  obtain ⟨r1, r2⟩ := hPS S S_p y hk hI hI_p g4 g6
  exact ⟨⟨S_p, bx_fv ad tc y, by rw [g1, y2], r1, r2, g5, bx_W0_md g3⟩, g8⟩
noncomputable def lz_half (t : Fin 4) (k idx pc : Nat) : Bool := rx_a0 code pc (42 + (t : Nat)) && (lz_ad k 1 (pc + 1) && rx_aw code (pc + 1 + 5 * k) 182 idx)
theorem lz_halfW (hF : lz_F p l s m meth c b L xs Dg PX ad) {i : Nat} (hi : i + 6 ≤ L) {t : Fin 4} {k idx pc q w : Nat} {rest : List Value} {K : lz_KT} {PR : Value → Prop} {K_p : Value → lz_KT} (hk : k ≤ 5) (hd : lz_half t k idx pc = true) (hl0 : (lz_lv b ad i)[w]? = some ((t : Nat), .ref (ad q))) (hq : q = 0 ∨ q = 480) (hrest : (rest.map fun v => v.category).sum ≤ 8)
    {d j : Nat} {M : rx_Mt} (hc : lz_C idx q k j M) (hdd : d ≤ 100) (hM : lz_M l s Dg PX ad M d q (lz_xs xs k (i + 1)) K PR K_p)
    (kk : ∀ v : Value, PR v → lz_G (K_p v) p l e s m below meth c Q b Dg ad (lz_lv b ad i) (pc + 1 + 5 * k + 3) (v :: rest)) : lz_G K p l e s m below meth c Q b Dg ad (lz_lv b ad i) pc rest := by
  unfold lz_half at hd
  rw [Bool.and_eq_true, Bool.and_eq_true] at hd
  obtain ⟨d1, d2, d3⟩ := hd
  have d1 := rx_d_aload_n d1
  have d3 := rx_d_invokevirtual d3
  obtain ⟨F, N, hj, w1, w2, w3, hp, hz, hml, hcl⟩ := hc
  have h1 := lz_args hF hi k 1 (pc + 1) (.ref (ad q) :: rest) d2 (by omega) (lz_call hF hj w1 w2 w3 hp hz hml hdd hcl hq lz_xs_len hrest d3 hM kk)
  intro H locs ls hW hl
  obtain ⟨⟨hx, hb, -⟩, -⟩ := id hF
  exact lv_aload_n hx hb d1 rfl (lv_at hl w hl0) (h1 H locs ls hW hl)
noncomputable def lz_pp (w : Bool) : Instr := match w with
  | true => .pop2
  | false => .pop
noncomputable def lz_po (w : Bool) : Nat := match w with
  | true => 88
  | false => 87
theorem lz_ppd {w : Bool} {pc : Nat} (h : rx_a0 code pc (lz_po w) = true) : decode code pc = .ok (lz_pp w, 1) := by
  cases w with
  | true => exact rx_d_pop2 h
  | false => exact rx_d_pop h
theorem lz_pop (hF : lz_F p l s m meth c b L xs Dg PX ad) {K : lz_KT} {w : Bool} {lv : List (Nat × Value)} {pc : Nat} {v : Value} {rest : List Value} (hv : v.category = lz_cw w) (hd : decode code pc = .ok (lz_pp w, 1)) (kk : lz_G K p l e s m below meth c Q b Dg ad lv (pc + 1) rest) : lz_G K p l e s m below meth c Q b Dg ad lv pc (v :: rest) := fun H locs ls hW hl => by
  obtain ⟨⟨hx, hb, -⟩, -⟩ := id hF
  cases w with
  | true => exact lv_pop2_2 hx hb hd hv (kk H locs ls hW hl)
  | false => exact lv_pop hx hb hd hv (kk H locs ls hW hl)
noncomputable def lz_cs (w : Bool) (k i1 i2 pc : Nat) : Bool := lz_half 1 k i1 pc && (rx_a0 code (pc + 1 + 5 * k + 3) (lz_po w) && (lz_half 2 k i2 (pc + 1 + 5 * k + 3 + 1) && (rx_a0 code (pc + 1 + 5 * k + 3 + 1 + 1 + 5 * k + 3) (lz_po w) && rx_at_ code (pc + 1 + 5 * k + 3 + 1 + 1 + 5 * k + 3 + 1) 167 (1824 - ((pc + 1 + 5 * k + 3 + 1 + 1 + 5 * k + 3 + 1 : Nat) : Int)))))
theorem lz_case (hF : lz_F p l s m meth c b L xs Dg PX ad) {K : lz_KT} {PR PR2 : Value → Prop} {K1 : Value → lz_KT} {i : Nat} (hi : i + 6 ≤ L) {w : Bool} {k i1 i2 pc j1 j2 d1 d2 : Nat} {M1 M2 : rx_Mt} (hk : k ≤ 5) (hc : lz_cs w k i1 i2 pc = true) (c1 : lz_C i1 0 k j1 M1) (c2 : lz_C i2 480 k j2 M2) (hd1 : d1 ≤ 100) (hd2 : d2 ≤ 100)
    (m1 : lz_M l s Dg PX ad M1 d1 0 (lz_xs xs k (i + 1)) K PR K1) (m2 : ∀ v, PR v → lz_M l s Dg PX ad M2 d2 480 (lz_xs xs k (i + 1)) (K1 v) PR2 (fun _ => K)) (p1 : ∀ v, PR v → v.category = lz_cw w) (p2 : ∀ v, PR2 v → v.category = lz_cw w) (kk : lz_G K p l e s m below meth c Q b Dg ad (lz_lv b ad i) 1824 []) : lz_G K p l e s m below meth c Q b Dg ad (lz_lv b ad i) pc [] := by
  unfold lz_cs at hc
  rw [Bool.and_eq_true, Bool.and_eq_true, Bool.and_eq_true, Bool.and_eq_true] at hc
  obtain ⟨e1, e2, e3, e4, e5⟩ := hc
  have e2 := lz_ppd e2
  have e4 := lz_ppd e4
  have e5 := rx_d_goto e5
  obtain ⟨⟨hx, hb, -⟩, -⟩ := id hF
  refine lz_halfW hF hi (w := 2) hk e1 rfl (Or.inl rfl) (by decide) c1 hd1 m1 fun v hv => ?_
  refine lz_pop hF (p1 v hv) e2 ?_
  refine lz_halfW hF hi (w := 1) hk e3 rfl (Or.inr rfl) (by decide) c2 hd2 (m2 v hv) fun v_p hv_p => ?_
  refine lz_pop hF (p2 v_p hv_p) e4 ?_
  exact fun H locs ls hW hl => lv_goto (tgt := 1824) hx hb e5 (by omega) (kk H locs ls hW hl)
noncomputable def lz_ci2 (k i1 i2 pc : Nat) : Bool := lz_half 1 k i1 pc && (lz_half 2 k i2 (pc + 1 + 5 * k + 3) && rx_at_ code (pc + 1 + 5 * k + 3 + 1 + 5 * k + 3) 159 (1824 - ((pc + 1 + 5 * k + 3 + 1 + 5 * k + 3 : Nat) : Int)))
theorem lz_caseI (hF : lz_F p l s m meth c b L xs Dg PX ad) {K : lz_KT} {PR : Value → Prop} {K1 : Value → lz_KT} {i : Nat} (hi : i + 6 ≤ L) {k i1 i2 pc j1 j2 d1 d2 : Nat} {M1 M2 : rx_Mt} (hk : k ≤ 5) (hc : lz_ci2 k i1 i2 pc = true) (c1 : lz_C i1 0 k j1 M1) (c2 : lz_C i2 480 k j2 M2) (hd1 : d1 ≤ 100) (hd2 : d2 ≤ 100)
    (m1 : lz_M l s Dg PX ad M1 d1 0 (lz_xs xs k (i + 1)) K PR K1) (m2 : ∀ v, PR v → lz_M l s Dg PX ad M2 d2 480 (lz_xs xs k (i + 1)) (K1 v) (fun v_p => v_p = v) (fun _ => K)) (p1 : ∀ v, PR v → ∃ x : Int32, v = .int x) (kk : lz_G K p l e s m below meth c Q b Dg ad (lz_lv b ad i) 1824 []) : lz_G K p l e s m below meth c Q b Dg ad (lz_lv b ad i) pc [] := by
  unfold lz_ci2 at hc
  rw [Bool.and_eq_true, Bool.and_eq_true] at hc
  obtain ⟨e1, e2, e3⟩ := hc
  have e3 := rx_d_if_icmp (cnd := .eq) e3
  obtain ⟨⟨hx, hb, -⟩, -⟩ := id hF
  refine lz_halfW hF hi (w := 2) hk e1 rfl (Or.inl rfl) (by decide) c1 hd1 m1 fun v hv => ?_
  refine lz_halfW hF hi (w := 1) hk e2 rfl (Or.inr rfl) (show v.category + 0 ≤ 8 by rcases lv_cat v with h | h <;> omega) c2 hd2 (m2 v hv) fun v_p hv_p => ?_
  obtain ⟨x, rfl⟩ := p1 v hv
  have hv_p : v_p = _ := hv_p
  subst hv_p
  exact fun H locs ls hW hl => lv_icmp_eq (tgt := 1824) hx hb e3 (by omega) (fun _ => kk H locs ls hW hl) (fun h => absurd rfl h)
-- the switch, the loop
noncomputable def lz_tgs : List Nat := [240, 273, 336, 379, 432, 465, 508, 551, 584, 617, 680, 703, 726, 739, 762, 775, 788, 811, 864, 887, 900, 933, 976, 989, 1022, 1075, 1108, 1131, 1174, 1207, 1260, 1313, 1346, 1379, 1422, 1455, 1498, 1521, 1564, 1577, 1600, 1623, 1656, 1699, 1742, 1765, 1788, 1811]
noncomputable def lz_tg (t : Nat) : Nat := (lz_tgs[t]?).getD 0
noncomputable def lz_offs : Array Int := #[207, 240, 303, 346, 399, 432, 475, 518, 551, 584, 647, 670, 693, 706, 729, 742, 755, 778, 831, 854, 867, 900, 943, 956, 989, 1042, 1075, 1098, 1141, 1174, 1227, 1280, 1313, 1346, 1389, 1422, 1465, 1488, 1531, 1544, 1567, 1590, 1623, 1666, 1709, 1732, 1755, 1778]
theorem lz_offs_ok : ∀ t : Nat, t < 48 → lz_offs[t]? = some ((lz_tg t : Int) - 33) := by decide +kernel
theorem lz_d33 : decode code 33 = .ok (.tableswitch 1791 0 47 lz_offs, 207) := by decide +kernel
theorem lz_d18 : decode code 18 = .ok (.iload_n 3, 1) := by decide +kernel
theorem lz_d19 : decode code 19 = .ok (.aload_n 0, 1) := by decide +kernel
theorem lz_d20 : decode code 20 = .ok (.arraylength, 1) := by decide +kernel
theorem lz_d21 : decode code 21 = .ok (.bipush 6, 2) := by decide +kernel
theorem lz_d23 : decode code 23 = .ok (.isub, 1) := by decide +kernel
theorem lz_d24 : decode code 24 = .ok (.if_icmp .gt (1824 + 6 - 24), 3) := by decide +kernel
theorem lz_d27 : decode code 27 = .ok (.aload_n 0, 1) := by decide +kernel
theorem lz_d28 : decode code 28 = .ok (.iload_n 3, 1) := by decide +kernel
theorem lz_d29 : decode code 29 = .ok (.iaload, 1) := by decide +kernel
theorem lz_d30 : decode code 30 = .ok (.bipush 63, 2) := by decide +kernel
theorem lz_d32 : decode code 32 = .ok (.iand, 1) := by decide +kernel
theorem lz_d1824 : decode code 1824 = .ok (.iinc 3 6, 3) := by decide +kernel
theorem lz_d1827 : decode code (1824 + 3) = .ok (.goto (18 - (1824 + 3)), 3) := by decide +kernel
theorem lz_d1830 : decode code (1824 + 6) = .ok (.iconst 1, 1) := by decide +kernel
theorem lz_d1831 : decode code (1824 + 7) = .ok (.ireturn, 1) := by decide +kernel
theorem lz_loop (hF : lz_F p l s m meth c b L xs Dg PX ad) {K : lz_KT} (hQ : ∀ i : Nat, lz_G K p l e s m below meth c Q b Dg ad (lz_lv b ad i) (1824 + 6) []) (hcase : ∀ i : Nat, i + 6 ≤ L → lz_G K p l e s m below meth c Q b Dg ad (lz_lv b ad i) 1824 [] → ∀ t : Nat, t < 48 → lz_G K p l e s m below meth c Q b Dg ad (lz_lv b ad i) (lz_tg t) []) : ∀ n i : Nat, i ≤ 4000 → L < i + n → lz_G K p l e s m below meth c Q b Dg ad (lz_lv b ad i) 18 [] := by
  obtain ⟨⟨hx, hb, -, -, -, -, hX, hbl, -⟩, hL, -⟩ := id hF
  intro n
  induction n with
  | zero =>
    intro i hi hn H locs ls hW hl
    obtain ⟨S, -, -, -, hS⟩ := id hW
    refine lv_iload_n hx hb lz_d18 rfl (lv_at hl 0 rfl) ?_
    refine lv_aload_n hx hb lz_d19 rfl (lv_at hl 3 rfl) ?_
    refine va_slen hx hb hX hbl (Nat.not_le.mpr hbl) hS lz_d20 ?_
    refine lv_bipush (v := Int32.ofInt 6) hx hb lz_d21 (by decide) ?_
    refine lv_isub hx hb lz_d23 ?_
    rw [← Int32.ofInt_eq_ofNat, ← Int32.ofInt_sub]
    refine lv_icmp_gt (tgt := 1824 + 6) hx hb lz_d24 rfl (fun _ => hQ i H locs ls hW hl) (fun h => absurd ?_ h)
    rw [Int32.lt_iff_toInt_lt, rx_i32 (by omega) (by omega), lz_int (by omega)]
    omega
  | succ n ih =>
    intro i hi hn H locs ls hW hl
    obtain ⟨S, -, -, -, hS⟩ := id hW
    refine lv_iload_n hx hb lz_d18 rfl (lv_at hl 0 rfl) ?_
    refine lv_aload_n hx hb lz_d19 rfl (lv_at hl 3 rfl) ?_
    refine va_slen hx hb hX hbl (Nat.not_le.mpr hbl) hS lz_d20 ?_
    refine lv_bipush (v := Int32.ofInt 6) hx hb lz_d21 (by decide) ?_
    refine lv_isub hx hb lz_d23 ?_
    rw [← Int32.ofInt_eq_ofNat, ← Int32.ofInt_sub]
    refine lv_icmp_gt (tgt := 1824 + 6) hx hb lz_d24 rfl (fun _ => hQ i H locs ls hW hl) (fun h => ?_)
    rw [Int32.lt_iff_toInt_lt, rx_i32 (by omega) (by omega), lz_int (by omega)] at h
    have hi6 : i + 6 ≤ L := by omega
    have kk : lz_G K p l e s m below meth c Q b Dg ad (lz_lv b ad i) 1824 [] := fun H locs ls hW hl => by
      refine lv_iinc (v := Int32.ofInt ((i + 6 : Nat) : Int)) (lv' := lz_lv b ad (i + 6)) hx hb lz_d1824 hl (k := 0) rfl ?_ (by decide) rfl (fun ls_p hl_p => ?_)
      · rw [← Int32.ofInt_add, Int.natCast_add]
        rfl
      · exact lv_goto (tgt := 18) hx hb lz_d1827 rfl (ih (i + 6) (by omega) (by omega) H locs ls_p hW hl_p)
    refine lv_aload_n hx hb lz_d27 rfl (lv_at hl 3 rfl) ?_
    refine lv_iload_n hx hb lz_d28 rfl (lv_at hl 0 rfl) ?_
    refine va_sld hx hb hX hbl (Nat.not_le.mpr hbl) hS ?_ lz_d29 ?_
    · refine vp_in_iff.mpr ?_
      rw [lz_int (by omega)]
      omega
    · refine lv_bipush (v := Int32.ofInt 63) hx hb lz_d30 (by decide) ?_
      refine lv_iand hx hb lz_d32 ?_
      generalize xs (Int32.ofInt (i : Int)).toNatClampNeg &&& Int32.ofInt 63 = x
      by_cases h1 : x.toInt < 0 ∨ 47 < x.toInt
      · exact lv_tableOut (tgt := 1824) hx hb lz_d33 h1 rfl (kk H locs ls hW hl)
      · have h2 : ¬ x.toInt < 0 := fun h => h1 (Or.inl h)
        have h3 : ¬ 47 < x.toInt := fun h => h1 (Or.inr h)
        have ht : x.toInt.toNat < 48 := by omega
        refine lv_tableIn (tgt := lz_tg x.toInt.toNat) (off := (lz_tg x.toInt.toNat : Int) - 33) hx hb lz_d33 h2 h3 ?_ (by omega) (hcase i hi6 kk _ ht H locs ls hW hl)
        rw [Int.sub_zero]
        exact lz_offs_ok _ ht
end LZ
