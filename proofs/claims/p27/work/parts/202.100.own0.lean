noncomputable def bx_opvB (o : Nat) (a b : Int) : Int := if o = 32 then a % 256 else if o = 33 then a + b else if o = 34 then a - b else if o = 30 then a / ((2 ^ b.toNat : Nat) : Int) else if b = 0 then a else (a % 4294967296) / ((2 ^ b.toNat : Nat) : Int)
noncomputable def bx_opcB (o : Nat) (a b : Int) : Prop := (-2147483648 ≤ a ∧ a ≤ 2147483647) ∧ (if o = 32 then b = 255 else if o = 33 then -2147483648 ≤ b ∧ b ≤ 2147483647 ∧ -2147483648 ≤ a + b ∧ a + b ≤ 2147483647 else if o = 34 then -2147483648 ≤ b ∧ b ≤ 2147483647 ∧ -2147483648 ≤ a - b ∧ a - b ≤ 2147483647 else b = 24 ∨ b = 16 ∨ b = 8 ∨ b = 0)
noncomputable def bx_mdB (o : Nat) : Nat := if o = 32 then 5 else if o = 33 then 0 else if o = 34 then 1 else if o = 30 then 9 else 10
theorem bx_toN {a : Int} : (Int32.ofInt a).toUInt32.toNat = (a % 4294967296).toNat := by
  rw [← Int32.toNat_toBitVec, Int32.toBitVec_ofInt, BitVec.toNat_ofInt]
  rfl
theorem bx_ush {x s : UInt32} {n : Nat} (h : s.toNat % 32 = n) : (x >>> s).toInt32.toInt = (((x.toNat / 2 ^ n : Nat) : Int)).bmod 4294967296 := by
  have e : (x >>> s).toInt32.toInt = (((x >>> s).toNat : Nat) : Int).bmod (2 ^ 32) := BitVec.toInt_eq_toNat_bmod _
  rw [e, UInt32.toNat_shiftRight, h, Nat.shiftRight_eq_div_pow]
theorem bx_opvB_ok {o : Nat} {a b : Int} (ho : o = 30 ∨ o = 31 ∨ o = 32 ∨ o = 33 ∨ o = 34) (h : bx_opcB o a b) : (rx_op (bx_mdB o) (Int32.ofInt a) (Int32.ofInt b)).toInt = bx_opvB o a b := by
  obtain ⟨ha, hb⟩ := h
  have ea := bx_toI (a := a) (by omega)
  rcases ho with rfl | rfl | rfl | rfl | rfl
  · have hb : b = 24 ∨ b = 16 ∨ b = 8 ∨ b = 0 := hb
    show (Int32.ofInt a >>> (Int32.ofInt b &&& 31)).toInt = a / ((2 ^ b.toNat : Nat) : Int)
    rw [← Int32.toInt_toBitVec (Int32.ofInt a >>> (Int32.ofInt b &&& 31)), Int32.toBitVec_shiftRight]
    unfold BitVec.sshiftRight'
    rw [BitVec.toInt_sshiftRight, Int32.toInt_toBitVec, Int.shiftRight_eq_div_pow, ea]
    have := rx_shn b.toNat (by omega)
    rw [show ((b.toNat : Nat) : Int) = b by omega] at this
    rw [this]
  · have hb : b = 24 ∨ b = 16 ∨ b = 8 ∨ b = 0 := hb
    show ((Int32.ofInt a).toUInt32 >>> ((Int32.ofInt b).toUInt32 &&& Int32.toUInt32 31)).toInt32.toInt = if b = 0 then a else (a % 4294967296) / ((2 ^ b.toNat : Nat) : Int)
    rcases hb with rfl | rfl | rfl | rfl
    · rw [bx_ush (n := 24) (by decide), bx_toN, if_neg (by decide)]
      show _ = a % 4294967296 / 16777216
      rw [Int.bmod_eq_of_le (by omega) (by omega)]
      omega
    · rw [bx_ush (n := 16) (by decide), bx_toN, if_neg (by decide)]
      show _ = a % 4294967296 / 65536
      rw [Int.bmod_eq_of_le (by omega) (by omega)]
      omega
    · rw [bx_ush (n := 8) (by decide), bx_toN, if_neg (by decide)]
      show _ = a % 4294967296 / 256
      rw [Int.bmod_eq_of_le (by omega) (by omega)]
      omega
    · rw [bx_ush (n := 0) (by decide), bx_toN, if_pos rfl, Int.bmod_def]
      omega
  · have hb : b = 255 := hb
    subst hb
    show (Int32.ofInt a &&& Int32.ofInt 255).toInt = a % 256
    have e : (Int32.ofInt a &&& Int32.ofInt 255).toBitVec.toNat = (a % 4294967296).toNat % 256 := by
      rw [Int32.toBitVec_and, BitVec.toNat_and, Int32.toNat_toBitVec, bx_toN, show (Int32.ofInt 255).toBitVec.toNat = 2 ^ 8 - 1 by decide, Nat.and_two_pow_sub_one_eq_mod]
    have e2 : (Int32.ofInt a &&& Int32.ofInt 255).toInt = (((a % 4294967296).toNat % 256 : Nat) : Int) := by
      rw [← e]
      exact BitVec.toInt_eq_toNat_of_lt (by rw [e]; omega)
    rw [e2]
    omega
  · have hb : -2147483648 ≤ b ∧ b ≤ 2147483647 ∧ -2147483648 ≤ a + b ∧ a + b ≤ 2147483647 := hb
    show (Int32.ofInt a + Int32.ofInt b).toInt = a + b
    rw [Int32.toInt_add, ea, bx_toI (a := b) (by omega)]
    exact rx_bmod0 hb.2.2.1 hb.2.2.2
  · have hb : -2147483648 ≤ b ∧ b ≤ 2147483647 ∧ -2147483648 ≤ a - b ∧ a - b ≤ 2147483647 := hb
    show (Int32.ofInt a - Int32.ofInt b).toInt = a - b
    rw [Int32.toInt_sub, ea, bx_toI (a := b) (by omega)]
    exact rx_bmod0 hb.2.2.1 hb.2.2.2
section RXOP
variable {PX : State → Prop} {Dg : va_G} {A : Nat → Prop} {ad xa : Nat → Nat} {l : Launch} {X : (Nat → Int → Int) → Prop}
variable {p : Program} {e : Env} {R : Room} {s : State} {m : MethodId} {args : Array Value} {below : List Frame} {meth : Method} {c : Code} {Q : State → Prop} {H0 : Heap}
noncomputable def rx_obBB (X : (Nat → Int → Int) → Prop) (Sin : Nat → Int → Int) (ms : List (Nat × Nat)) (inv : Nat → bx_SP) (mea : Nat → (Nat → Int → Int) → (Nat → Int) → Nat) (i i_p : Nat) (z : rx_Z) (o : Nat) (a b : rx_E) (lo hi : Int) : Prop :=
  ∀ (S : Nat → Int → Int) (r : Nat → Int), inv i S r → X S → bx_Inv rxL S → bx_same rxL (bx_mdl ms) Sin S → rx_sat z.1 r → rx_facts z.2.1 r →
    bx_opcB o (rx_ev r a) (rx_ev r b) ∧ ∀ r_p : Nat → Int, rx_same z.1.length r r_p → r_p 0 = 0 → r_p z.1.length = bx_opvB o (rx_ev r a) (rx_ev r b) → (lo ≤ r_p z.1.length ∧ r_p z.1.length ≤ hi) ∧ inv i_p S r_p ∧ mea i_p S r_p < mea i S r
theorem rx_stepBB {M : rx_Mt} {tab : List bx_HE} {inv : Nat → bx_SP} {mea : Nat → (Nat → Int → Int) → (Nat → Int) → Nat} {Sin : Nat → Int → Int} {ms : List (Nat × Nat)} {i i_p o : Nat} {ins : Instr} {z : rx_Z} {os : List bx_HO} {es : List (rx_End × List (Nat × Int × Int))} {q_p : bx_HE} {a b : rx_E} {lo hi : Int} {t : List rx_V}
    (hF : rx_Fr rxG rxNW rxAO PX p s m args meth c M) (ho : (o = 30 ∧ ins = .ishr) ∨ (o = 31 ∧ ins = .iushr) ∨ (o = 32 ∧ ins = .iand) ∨ (o = 33 ∧ ins = .iadd) ∨ (o = 34 ∧ ins = .isub)) (hdg : decode M.2.1 (rx_zpc z) = .ok (ins, 1)) (hne : bx_noE z.2.2.1 = true) (hst : rx_zst z = .inr (0, b) :: .inr (0, a) :: t)
    (htab : tab[i_p]? = some q_p) (hq_p : rx_nxI (z.1 ++ [(lo, hi)]) z 1 (.inr (0, (z.1.length, 0)) :: t) = q_p.1) (hob : rx_obBB X Sin ms inv mea i i_p z o a b lo hi) :
    bx_Step p l e R s m args below meth c Q Dg rxL X vwCl A xa H0 ad M tab inv mea Sin ms i (z, os, es) := by
  intro S r H locs ls hinv hXS hsin hR K
  obtain ⟨Sq, ⟨ws0, tys0, hInv0, hrest0⟩, -, ⟨-, hch0⟩, -⟩ := id hR.2.2.2.1
  have eSq : Sq = S := bx_noE_eq hne (hch0 rfl)
  rw [eSq] at hInv0
  have hInv0 : bx_Inv rxL S := hInv0
  obtain ⟨o1, o2⟩ := hob S r hinv hXS hInv0 hsin hR.1 hR.2.1
  have hv := bx_opvB_ok (by rcases ho with h | h | h | h | h <;> simp [h.1]) o1
  obtain ⟨b1, b2, b3⟩ := o2 (rx_up r z.1.length (rx_op (bx_mdB o) (Int32.ofInt (rx_ev r a)) (Int32.ofInt (rx_ev r b))).toInt) rx_up_same ((rx_up_same 0 (rx_pos hR.1)).trans hR.1.1) (rx_up_self.trans hv)
  rw [rx_up_self] at b1
  have hsat := rx_sat_up (lo := lo) (hi := hi) hR.1 b1.1 b1.2
  have hsc := rx_stsc hR
  rw [hst] at hsc
  have ht2 : ∀ v ∈ t, rx_sc z.1.length z.2.2.1.length v := fun v hv => hsc v (List.mem_cons_of_mem _ (List.mem_cons_of_mem _ hv))
  have hlen : z.1.length ≤ (z.1 ++ [(lo, hi)]).length := by simp
  have hN := rx_R_nxI (d := 1) (st := .inr (0, (z.1.length, 0)) :: t) hR hlen rx_up_same hsat (fun v hv => by
    rcases List.mem_cons.mp hv with h | h
    · subst h
      show z.1.length < (z.1 ++ [(lo, hi)]).length
      simp
    · exact rx_sc.mono (ht2 v h) hlen trivial)
  rw [hq_p] at hN
  have k := K i_p q_p S _ H locs ls htab b2 b3 hXS hsin hN
  rw [← hq_p] at k
  have ev : rx_iv (rx_up r z.1.length (rx_op (bx_mdB o) (Int32.ofInt (rx_ev r a)) (Int32.ofInt (rx_ev r b))).toInt) ad xa (.inr (0, (z.1.length, 0))) = Value.int (rx_op (bx_mdB o) (Int32.ofInt (rx_ev r a)) (Int32.ofInt (rx_ev r b))) := by
    show Value.int (Int32.ofInt (rx_ev _ (z.1.length, 0))) = _
    unfold rx_ev
    rw [rx_up_self, Int.add_zero, Int32.ofInt_toInt]
  have et := rx_st_ext (ad := ad) (ad_p := ad) (xa := xa) ht2 (rx_up_same (r := r) (n := z.1.length) (z := (rx_op (bx_mdB o) (Int32.ofInt (rx_ev r a)) (Int32.ofInt (rx_ev r b))).toInt)) rx_sameA.rf
  have row : W p l e R s m args below meth c H locs z.2.2.2.1 z.2.2.2.2.1 Q (F0 m (rx_zpc z + 1) ls (.int (rx_op (bx_mdB o) (Int32.ofInt (rx_ev r a)) (Int32.ofInt (rx_ev r b))) :: t.map (rx_iv r ad xa))) → W p l e R s m args below meth c H locs z.2.2.2.1 z.2.2.2.2.1 Q (F0 m (rx_zpc z) ls (.int (Int32.ofInt (rx_ev r b)) :: .int (Int32.ofInt (rx_ev r a)) :: t.map (rx_iv r ad xa))) := fun k => by
    rcases ho with ⟨h1, h2⟩ | ⟨h1, h2⟩ | ⟨h1, h2⟩ | ⟨h1, h2⟩ | ⟨h1, h2⟩
    · subst h1
      subst h2
      exact lv_ishr hF.1 hF.2.1 hdg k
    · subst h1
      subst h2
      exact lv_iushr hF.1 hF.2.1 hdg rfl k
    · subst h1
      subst h2
      exact lv_iand hF.1 hF.2.1 hdg k
    · subst h1
      subst h2
      exact lv_iadd hF.1 hF.2.1 hdg k
    · subst h1
      subst h2
      exact lv_isub hF.1 hF.2.1 hdg k
  rw [hst]
  refine row ?_
  rw [← ev, ← et]
  obtain ⟨zI, zF, zh, zc, zs, zp, zl, zt⟩ := z
  exact k
end RXOP
noncomputable def rzBy (a j : Int) : Int := if j = 0 then a / 16777216 % 256 else if j = 1 then a / 65536 % 256 else if j = 2 then a / 256 % 256 else a % 256
noncomputable def rzQ (k n a old i : Int) : Int := if n ≤ i ∧ i < n + k then rzBy a (i - n) else old
noncomputable def rzFd (n b1 b2 b3 b4 b5 old i : Int) : Int := rzQ 4 (n + 16) b5 (rzQ 4 (n + 12) b4 (rzQ 4 (n + 8) b3 (rzQ 4 (n + 4) b2 (rzQ 4 (n + 0) b1 old i) i) i) i) i
theorem rzQ_0 {n a old i : Int} : rzQ 0 n a old i = old := if_neg (by omega)
theorem rzQ_s {k k_p n a old i : Int} (e : k_p = k + 1) (h : i ≠ n + k) : rzQ k_p n a old i = rzQ k n a old i := by
  subst e
  unfold rzQ
  by_cases h1 : n ≤ i ∧ i < n + k
  · rw [if_pos h1, if_pos (by omega)]
  · rw [if_neg h1, if_neg (by omega)]
theorem rzQ_n {k k_p n a old i : Int} (e : k_p = k + 1) (h : i = n + k) (hk : 0 ≤ k) : rzQ k_p n a old i = rzBy a k := by
  subst e
  subst h
  unfold rzQ
  rw [if_pos (by omega), show n + k - n = k by omega]
theorem rzBy_sh {a k sh : Int} (h0 : 0 ≤ k) (h1 : k ≤ 3) (hs : sh = 24 - 8 * k) {o : Nat} (ho : o = 30 ∨ o = 31) : bx_opvB 32 (bx_opvB o a sh) 255 = rzBy a k := by
  have : k = 0 ∨ k = 1 ∨ k = 2 ∨ k = 3 := by omega
  rcases this with rfl | rfl | rfl | rfl
  · obtain rfl : sh = 24 := by omega
    rcases ho with rfl | rfl
    · rfl
    · show a % 4294967296 / 16777216 % 256 = a / 16777216 % 256
      omega
  · obtain rfl : sh = 16 := by omega
    rcases ho with rfl | rfl
    · rfl
    · show a % 4294967296 / 65536 % 256 = a / 65536 % 256
      omega
  · obtain rfl : sh = 8 := by omega
    rcases ho with rfl | rfl
    · rfl
    · show a % 4294967296 / 256 % 256 = a / 256 % 256
      omega
  · obtain rfl : sh = 0 := by omega
    rcases ho with rfl | rfl
    · show a / 1 % 256 = a % 256
      omega
    · rfl
theorem rzSh_b {a k sh : Int} (h0 : 0 ≤ k) (h1 : k ≤ 3) (hs : sh = 24 - 8 * k) (a0 : -2147483648 ≤ a) (a1 : a ≤ 2147483647) {o : Nat} (ho : o = 30 ∨ o = 31) : -2147483648 ≤ bx_opvB o a sh ∧ bx_opvB o a sh ≤ 2147483647 := by
  have : k = 0 ∨ k = 1 ∨ k = 2 ∨ k = 3 := by omega
  rcases this with rfl | rfl | rfl | rfl
  · obtain rfl : sh = 24 := by omega
    rcases ho with rfl | rfl
    · show -2147483648 ≤ a / 16777216 ∧ a / 16777216 ≤ 2147483647
      omega
    · show -2147483648 ≤ a % 4294967296 / 16777216 ∧ a % 4294967296 / 16777216 ≤ 2147483647
      omega
  · obtain rfl : sh = 16 := by omega
    rcases ho with rfl | rfl
    · show -2147483648 ≤ a / 65536 ∧ a / 65536 ≤ 2147483647
      omega
    · show -2147483648 ≤ a % 4294967296 / 65536 ∧ a % 4294967296 / 65536 ≤ 2147483647
      omega
  · obtain rfl : sh = 8 := by omega
    rcases ho with rfl | rfl
    · show -2147483648 ≤ a / 256 ∧ a / 256 ≤ 2147483647
      omega
    · show -2147483648 ≤ a % 4294967296 / 256 ∧ a % 4294967296 / 256 ≤ 2147483647
      omega
  · obtain rfl : sh = 0 := by omega
    rcases ho with rfl | rfl
    · show -2147483648 ≤ a / 1 ∧ a / 1 ≤ 2147483647
      omega
    · show -2147483648 ≤ a ∧ a ≤ 2147483647
      omega
noncomputable def rzOk (T : Int → Int) (n k : Int) : Bool := decide (k + 3 < n ∧ T k ≤ 5 ∧ T (k + 1) ≤ 5 ∧ T (k + 2) ≤ 9 ∧ T (k + 3) ≤ 5)
noncomputable def rzCnt (T : Int → Int) (n : Int) : Nat → Int
  | 0 => 0
  | m + 1 => rzCnt T n m + if rzOk T n (4 * (m : Int)) then 1 else 0
noncomputable def rzRC (S : Nat → Int → Int) (p : Nat) (f : Int) (t : Nat) : Int := rzCnt (fun i => S t i) (S p f) ((S p f + 3) / 4).toNat
noncomputable def rzPR (S : Nat → Int → Int) (p : Nat) (f : Int) (t : Nat) : Int := (S p f + 3) / 4 - rzRC S p f t
theorem rzOk_t {T : Int → Int} {n k : Int} (h : k + 3 < n ∧ T k ≤ 5 ∧ T (k + 1) ≤ 5 ∧ T (k + 2) ≤ 9 ∧ T (k + 3) ≤ 5) : rzOk T n k = true := decide_eq_true h
theorem rzOk_f {T : Int → Int} {n k : Int} (h : ¬ (k + 3 < n ∧ T k ≤ 5 ∧ T (k + 1) ≤ 5 ∧ T (k + 2) ≤ 9 ∧ T (k + 3) ≤ 5)) : rzOk T n k = false := decide_eq_false h
theorem rzCnt_t {T : Int → Int} {n k c c_p : Int} {m : Nat} (hk : k = 4 * (m : Int)) (h : rzOk T n k = true) (e : c = rzCnt T n m) (e2 : c_p = c + 1) : c_p = rzCnt T n (m + 1) := by
  subst hk
  show c_p = rzCnt T n m + _
  rw [h, if_pos rfl, e2, e]
theorem rzCnt_f {T : Int → Int} {n k c : Int} {m : Nat} (hk : k = 4 * (m : Int)) (h : rzOk T n k = false) (e : c = rzCnt T n m) : c = rzCnt T n (m + 1) := by
  subst hk
  show c = rzCnt T n m + _
  rw [h, if_neg (by decide), e, Int.add_zero]
theorem rzCnt_b {T : Int → Int} {n : Int} : ∀ m : Nat, 0 ≤ rzCnt T n m ∧ rzCnt T n m ≤ (m : Int)
  | 0 => ⟨Int.le_refl 0, Int.le_refl 0⟩
  | m + 1 => by
    have h := rzCnt_b (T := T) (n := n) m
    show 0 ≤ rzCnt T n m + (if rzOk T n (4 * (m : Int)) then 1 else 0) ∧ rzCnt T n m + (if rzOk T n (4 * (m : Int)) then 1 else 0) ≤ ((m + 1 : Nat) : Int)
    split <;> omega
theorem rzOk_cg {T U : Int → Int} {n k : Int} (h : ∀ i : Int, 0 ≤ i → i < 400 → T i = U i) (hn : n ≤ 400) (hk : 0 ≤ k) : rzOk T n k = rzOk U n k := by
  by_cases h1 : k + 3 < n
  · unfold rzOk
    rw [h k (by omega) (by omega), h (k + 1) (by omega) (by omega), h (k + 2) (by omega) (by omega), h (k + 3) (by omega) (by omega)]
  · rw [rzOk_f (fun h2 => h1 h2.1), rzOk_f (fun h2 => h1 h2.1)]
theorem rz_fd {ms : List (Nat × Nat)} {S S_p : Nat → Int → Int} (hs : bx_same rxL (bx_mdl ms) S S_p) {p n c k : Nat} (hm : bx_mdl ms c k = false) (hp : p < rxL.2.1) (h : (List.range n).all (fun i => Nat.blt i (bx_wd (rxL.1 p)) && (Nat.beq (bx_mc (rxL.1 p) i).1 c && Nat.beq (bx_mc (rxL.1 p) i).2 k)) = true) (i : Int) (i0 : 0 ≤ i) (i1 : i < n) : S_p p i = S p i := by
  have hi := List.all_eq_true.mp h i.toNat (List.mem_range.mpr (by omega))
  rw [Bool.and_eq_true, Bool.and_eq_true, Nat.blt_eq] at hi
  have q := hs p i.toNat hp hi.1 (by rw [Nat.eq_of_beq_eq_true hi.2.1, Nat.eq_of_beq_eq_true hi.2.2]; exact hm)
  rwa [Int.toNat_of_nonneg i0] at q

noncomputable def rzSk (q : Int → Bool) (n : Int) : Nat → Int → Int
  | 0, k => k
  | f + 1, k => if k < n ∧ q k = true then rzSk q n f (k + 1) else k
noncomputable def rzE (q : Int → Bool) (n k : Int) : Int := rzSk q n (n - k).toNat k
theorem rzE_y {q : Int → Bool} {n k : Int} (h : k < n) (hq : q k = true) : rzE q n k = rzE q n (k + 1) := by
  unfold rzE
  rw [show (n - k).toNat = (n - (k + 1)).toNat + 1 by omega]
  exact if_pos ⟨h, hq⟩
theorem rzE_n {q : Int → Bool} {n k : Int} (h : ¬ (k < n ∧ q k = true)) : rzE q n k = k := by
  unfold rzE
  cases (n - k).toNat with
  | zero => rfl
  | succ m => exact if_neg h
theorem rzSk_b {q : Int → Bool} {n : Int} : ∀ (f : Nat) (k : Int), k ≤ rzSk q n f k ∧ (k ≤ n → rzSk q n f k ≤ n)
  | 0, k => ⟨Int.le_refl _, fun h => h⟩
  | f + 1, k => by
    have h := rzSk_b (q := q) (n := n) f (k + 1)
    show k ≤ (if k < n ∧ q k = true then rzSk q n f (k + 1) else k) ∧ (k ≤ n → (if k < n ∧ q k = true then rzSk q n f (k + 1) else k) ≤ n)
    by_cases hc : k < n ∧ q k = true
    · rw [if_pos hc]
      exact ⟨by omega, fun _ => h.2 (by omega)⟩
    · rw [if_neg hc]
      exact ⟨by omega, fun h => h⟩
theorem rzE_b {q : Int → Bool} {n k : Int} : k ≤ rzE q n k ∧ (k ≤ n → rzE q n k ≤ n) := rzSk_b _ _
theorem rzSk_q {q : Int → Bool} {n : Int} : ∀ (f : Nat) (k i : Int), k ≤ i → i < rzSk q n f k → q i = true
  | 0, k, i, h0, h1 => by
    have h1 : i < k := h1
    omega
  | f + 1, k, i, h0, h1 => by
    have h1 : i < (if k < n ∧ q k = true then rzSk q n f (k + 1) else k) := h1
    by_cases hc : k < n ∧ q k = true
    · rw [if_pos hc] at h1
      by_cases hi : i = k
      · rw [hi]
        exact hc.2
      · exact rzSk_q f (k + 1) i (by omega) h1
    · rw [if_neg hc] at h1
      omega
theorem rzE_q {q : Int → Bool} {n k i : Int} (h0 : k ≤ i) (h1 : i < rzE q n k) : q i = true := rzSk_q _ _ _ h0 h1
noncomputable def rzL (c : Int) : Bool := decide (97 ≤ c ∧ c ≤ 122)
noncomputable def rzG (c : Int) : Bool := decide (48 ≤ c ∧ c ≤ 57)
theorem rzL_t {c : Int} (h0 : 97 ≤ c) (h1 : c ≤ 122) : rzL c = true := decide_eq_true ⟨h0, h1⟩
theorem rzL_f {c : Int} (h : c < 97 ∨ 122 < c) : rzL c = false := decide_eq_false (by omega)
theorem rzG_t {c : Int} (h0 : 48 ≤ c) (h1 : c ≤ 57) : rzG c = true := decide_eq_true ⟨h0, h1⟩
theorem rzG_f {c : Int} (h : c < 48 ∨ 57 < c) : rzG c = false := decide_eq_false (by omega)
theorem rzL_b {c : Int} (h : rzL c = true) : 97 ≤ c ∧ c ≤ 122 := of_decide_eq_true h
theorem rzG_b {c : Int} (h : rzG c = true) : 48 ≤ c ∧ c ≤ 57 := of_decide_eq_true h
theorem rzL_c {c : Int} (h : rzL c = false) : c < 97 ∨ 122 < c := by
  have := of_decide_eq_false h
  omega
theorem rzG_c {c : Int} (h : rzG c = false) : c < 48 ∨ 57 < c := by
  have := of_decide_eq_false h
  omega
noncomputable def rzF (T : Int → Int) (n k : Int) : Int := rzE (fun i => decide (T i = 32)) n k
noncomputable def rzT (T : Int → Int) (n f : Int) : Int := if f < n then (if rzL (T f) = true then rzE (fun i => rzL (T i)) n (f + 1) else if rzG (T f) = true then rzE (fun i => rzG (T i)) n (f + 1) else f + 1) else f
noncomputable def rzN (T : Int → Int) (n f : Int) : Int := rzF T n (rzT T n f)
theorem rzF_b {T : Int → Int} {n k : Int} : k ≤ rzF T n k ∧ (k ≤ n → rzF T n k ≤ n) := rzE_b
theorem rzT_b {T : Int → Int} {n f : Int} : f ≤ rzT T n f ∧ (f ≤ n → rzT T n f ≤ n) ∧ (f < n → f < rzT T n f) := by
  unfold rzT
  by_cases h : f < n
  · rw [if_pos h]
    by_cases h1 : rzL (T f) = true
    · rw [if_pos h1]
      have := rzE_b (q := fun i => rzL (T i)) (n := n) (k := f + 1)
      omega
    · rw [if_neg h1]
      by_cases h2 : rzG (T f) = true
      · rw [if_pos h2]
        have := rzE_b (q := fun i => rzG (T i)) (n := n) (k := f + 1)
        omega
      · rw [if_neg h2]
        omega
  · rw [if_neg h]
    omega
theorem rzN_b {T : Int → Int} {n f : Int} : f ≤ rzN T n f ∧ (f ≤ n → rzN T n f ≤ n) ∧ (f < n → f < rzN T n f) := by
  have h := rzT_b (T := T) (n := n) (f := f)
  have g := rzF_b (T := T) (n := n) (k := rzT T n f)
  unfold rzN
  omega
theorem rzT_l {T : Int → Int} {n f : Int} (h : f < n) (hl : rzL (T f) = true) : rzT T n f = rzE (fun i => rzL (T i)) n (f + 1) := by
  unfold rzT
  rw [if_pos h, if_pos hl]
theorem rzT_g {T : Int → Int} {n f : Int} (h : f < n) (hl : rzL (T f) = false) (hg : rzG (T f) = true) : rzT T n f = rzE (fun i => rzG (T i)) n (f + 1) := by
  unfold rzT
  rw [if_pos h, if_neg (by rw [hl]; decide), if_pos hg]
theorem rzT_s {T : Int → Int} {n f : Int} (h : f < n) (hl : rzL (T f) = false) (hg : rzG (T f) = false) : rzT T n f = f + 1 := by
  unfold rzT
  rw [if_pos h, if_neg (by rw [hl]; decide), if_neg (by rw [hg]; decide)]
theorem rzT_e {T : Int → Int} {n f : Int} (h : ¬ f < n) : rzT T n f = f := if_neg h
theorem rzT_ls {T : Int → Int} {n f i : Int} (h : f < n) (hl : rzL (T f) = true) (h0 : f ≤ i) (h1 : i < rzT T n f) : rzL (T i) = true := by
  by_cases hi : i = f
  · rw [hi]
    exact hl
  · rw [rzT_l h hl] at h1
    exact rzE_q (q := fun i => rzL (T i)) (k := f + 1) (by omega) h1
theorem rzT_gs {T : Int → Int} {n f i : Int} (h : f < n) (hl : rzL (T f) = false) (hg : rzG (T f) = true) (h0 : f ≤ i) (h1 : i < rzT T n f) : rzG (T i) = true := by
  by_cases hi : i = f
  · rw [hi]
    exact hg
  · rw [rzT_g h hl hg] at h1
    exact rzE_q (q := fun i => rzG (T i)) (k := f + 1) (by omega) h1
noncomputable def rzWd (T : Int → Int) : List Int → Int → Int → Bool
  | [], f, t => decide (f = t)
  | c :: r, f, t => decide (T f = c) && rzWd T r (f + 1) t
theorem rzWd_len {T : Int → Int} : ∀ {w : List Int} {f t : Int}, rzWd T w f t = true → t = f + (w.length : Int)
  | [], f, t, h => by
    have h : f = t := of_decide_eq_true h
    simp [h]
  | c :: r, f, t, h => by
    have h : (decide (T f = c) && rzWd T r (f + 1) t) = true := h
    rw [Bool.and_eq_true] at h
    have := rzWd_len h.2
    simp only [List.length_cons]
    omega
theorem rzWd_at {T : Int → Int} : ∀ {w : List Int} {f t : Int}, rzWd T w f t = true → ∀ i : Nat, (hi : i < w.length) → T (f + (i : Int)) = w[i]
  | [], f, t, h, i, hi => absurd hi (Nat.not_lt_zero i)
  | c :: r, f, t, h, i, hi => by
    have h : (decide (T f = c) && rzWd T r (f + 1) t) = true := h
    rw [Bool.and_eq_true] at h
    cases i with
    | zero =>
      have h1 : T f = c := of_decide_eq_true h.1
      simpa using h1
    | succ j =>
      have h2 := rzWd_at h.2 j (by simpa using hi)
      rw [show f + ((j + 1 : Nat) : Int) = f + 1 + (j : Int) by omega]
      simpa using h2
theorem rzWd_of {T : Int → Int} : ∀ {w : List Int} {f t : Int}, t = f + (w.length : Int) → (∀ i : Nat, (hi : i < w.length) → T (f + (i : Int)) = w[i]) → rzWd T w f t = true
  | [], f, t, h, _ => decide_eq_true (by simpa using h.symm)
  | c :: r, f, t, h, g => by
    show (decide (T f = c) && rzWd T r (f + 1) t) = true
    rw [Bool.and_eq_true]
    refine ⟨decide_eq_true ?_, rzWd_of (by rw [h]; simp only [List.length_cons]; omega) fun i hi => ?_⟩
    · have := g 0 (by simp)
      simpa using this
    · have := g (i + 1) (by simpa using hi)
      rw [show f + 1 + (i : Int) = f + ((i + 1 : Nat) : Int) by omega]
      simpa using this
noncomputable def rzIs (T : Int → Int) (n : Int) (w : List Int) (f : Int) : Bool := rzWd T w f (rzT T n f)
noncomputable def rzSg (T : Int → Int) (n c f : Int) : Bool := decide (f < n ∧ T f = c)
noncomputable def rzDg (T : Int → Int) (n f : Int) : Bool := decide (f < n ∧ rzG (T f) = true)
noncomputable def rzNm (T : Int → Int) (f : Int) : Nat → Int
  | 0 => 0
  | m + 1 => if rzNm T f m * 10 + T (f + (m : Int)) - 48 ≤ 1001 then rzNm T f m * 10 + T (f + (m : Int)) - 48 else 1001
noncomputable def rzDv (T : Int → Int) (f : Int) : Nat → Int
  | 0 => 0
  | m + 1 => if 1000000 < rzDv T f m then rzDv T f m else rzDv T f m * 10 + T (f + (m : Int)) - 48
theorem rzNm_dv {T : Int → Int} {f : Int} : ∀ m : Nat, (∀ i : Nat, i < m → 48 ≤ T (f + (i : Int)) ∧ T (f + (i : Int)) ≤ 57) → 0 ≤ rzDv T f m ∧ (rzDv T f m ≤ 1000 → rzNm T f m = rzDv T f m) ∧ (1000 < rzDv T f m → rzNm T f m = 1001)
  | 0, _ => ⟨Int.le_refl 0, fun _ => rfl, fun h => by
    have h : (1000 : Int) < 0 := h
    omega⟩
  | m + 1, h => by
    obtain ⟨h0, h1, h2⟩ := rzNm_dv m fun i hi => h i (by omega)
    have g := h m (by omega)
    show 0 ≤ (if 1000000 < rzDv T f m then rzDv T f m else rzDv T f m * 10 + T (f + (m : Int)) - 48) ∧ ((if 1000000 < rzDv T f m then rzDv T f m else rzDv T f m * 10 + T (f + (m : Int)) - 48) ≤ 1000 → (if rzNm T f m * 10 + T (f + (m : Int)) - 48 ≤ 1001 then rzNm T f m * 10 + T (f + (m : Int)) - 48 else 1001) = (if 1000000 < rzDv T f m then rzDv T f m else rzDv T f m * 10 + T (f + (m : Int)) - 48)) ∧ (1000 < (if 1000000 < rzDv T f m then rzDv T f m else rzDv T f m * 10 + T (f + (m : Int)) - 48) → (if rzNm T f m * 10 + T (f + (m : Int)) - 48 ≤ 1001 then rzNm T f m * 10 + T (f + (m : Int)) - 48 else 1001) = 1001)
    by_cases hb : 1000000 < rzDv T f m
    · rw [if_pos hb, h2 (by omega), if_neg (by omega)]
      exact ⟨by omega, fun q => by omega, fun _ => rfl⟩
    · rw [if_neg hb]
      by_cases hc : rzDv T f m ≤ 1000
      · rw [h1 hc]
        refine ⟨by omega, fun q => if_pos (by omega), fun q => ?_⟩
        by_cases hd : rzDv T f m * 10 + T (f + (m : Int)) - 48 ≤ 1001
        · rw [if_pos hd]
          omega
        · exact if_neg hd
      · rw [h2 (by omega)]
        exact ⟨by omega, fun q => by omega, fun _ => if_neg (by omega)⟩
noncomputable def rzNo (T : Int → Int) (n f : Int) : Int := if rzDg T n f = true then rzNm T f (rzT T n f - f).toNat else -1
noncomputable def rzHs (T : Int → Int) (f : Int) : Nat → Int
  | 0 => 0
  | m + 1 => if m < 10 then rzHs T f m * 32 + T (f + (m : Int)) - 96 else -1
theorem rzHs_nn {T : Int → Int} {f : Int} : ∀ {m : Nat}, m ≤ 10 → (∀ i : Nat, i < m → 97 ≤ T (f + (i : Int)) ∧ T (f + (i : Int)) ≤ 122) → 0 ≤ rzHs T f m ∧ (0 < m → 0 < rzHs T f m)
  | 0, _, _ => ⟨Int.le_refl 0, fun h => absurd h (Nat.lt_irrefl 0)⟩
  | m + 1, hm, h => by
    have h1 := rzHs_nn (m := m) (by omega) fun i hi => h i (by omega)
    have g := h m (by omega)
    show 0 ≤ (if m < 10 then rzHs T f m * 32 + T (f + (m : Int)) - 96 else -1) ∧ (0 < m + 1 → 0 < (if m < 10 then rzHs T f m * 32 + T (f + (m : Int)) - 96 else -1))
    rw [if_pos (by omega)]
    exact ⟨by omega, fun _ => by omega⟩
theorem rzHs_inj {T U : Int → Int} {f g : Int} : ∀ {m k : Nat}, m ≤ 10 → k ≤ 10 → (∀ i : Nat, i < m → 97 ≤ T (f + (i : Int)) ∧ T (f + (i : Int)) ≤ 122) → (∀ i : Nat, i < k → 97 ≤ U (g + (i : Int)) ∧ U (g + (i : Int)) ≤ 122) → rzHs T f m = rzHs U g k → m = k ∧ ∀ i : Nat, i < m → T (f + (i : Int)) = U (g + (i : Int))
  | 0, 0, _, _, _, _, _ => ⟨rfl, fun i hi => absurd hi (Nat.not_lt_zero i)⟩
  | 0, k + 1, _, hk, _, hU, e => by
    have := (rzHs_nn hk hU).2 (by omega)
    have e : (0 : Int) = rzHs U g (k + 1) := e
    omega
  | m + 1, 0, hm, _, hT, _, e => by
    have := (rzHs_nn hm hT).2 (by omega)
    have e : rzHs T f (m + 1) = 0 := e
    omega
  | m + 1, k + 1, hm, hk, hT, hU, e => by
    have e : (if m < 10 then rzHs T f m * 32 + T (f + (m : Int)) - 96 else -1) = (if k < 10 then rzHs U g k * 32 + U (g + (k : Int)) - 96 else -1) := e
    rw [if_pos (by omega), if_pos (by omega)] at e
    have a := hT m (by omega)
    have b := hU k (by omega)
    have e1 : rzHs T f m = rzHs U g k := by omega
    have e2 : T (f + (m : Int)) = U (g + (k : Int)) := by omega
    obtain ⟨q, r⟩ := rzHs_inj (m := m) (k := k) (by omega) (by omega) (fun i hi => hT i (by omega)) (fun i hi => hU i (by omega)) e1
    subst q
    refine ⟨rfl, fun i hi => ?_⟩
    by_cases hi2 : i = m
    · rw [hi2]
      exact e2
    · exact r i (by omega)
noncomputable def rzWf (w : List Int) (i : Int) : Int := (w[i.toNat]?).getD 0
theorem rzWf_at {w : List Int} {i : Nat} (hi : i < w.length) : rzWf w (0 + (i : Int)) = w[i] := by
  unfold rzWf
  rw [show (0 + (i : Int)).toNat = i by omega, List.getElem?_eq_getElem hi]
  rfl
noncomputable def rzHw (w : List Int) : Int := rzHs (rzWf w) 0 w.length
noncomputable def rzOkW (w : List Int) : Bool := Nat.blt 0 w.length && Nat.ble w.length 10 && w.all rzL
theorem rzIs_iff {T : Int → Int} {n f : Int} {w : List Int} (hw : rzOkW w = true) : rzIs T n w f = true ↔ (f < n ∧ rzL (T f) = true ∧ rzHs T f (rzT T n f - f).toNat = rzHw w) := by
  unfold rzOkW at hw
  rw [Bool.and_eq_true, Bool.and_eq_true, Nat.blt_eq, Nat.ble_eq] at hw
  obtain ⟨⟨w0, w1⟩, w2⟩ := hw
  have hl : ∀ i : Nat, i < w.length → 97 ≤ rzWf w (0 + (i : Int)) ∧ rzWf w (0 + (i : Int)) ≤ 122 := fun i hi => by
    rw [rzWf_at hi]
    exact rzL_b (List.all_eq_true.mp w2 _ (List.getElem_mem hi))
  have hT := rzT_b (T := T) (n := n) (f := f)
  constructor
  · intro h
    have e := rzWd_len h
    have hfn : f < n := by
      by_cases hf : f < n
      · exact hf
      · rw [rzT_e hf] at e
        omega
    have h0 := rzWd_at h 0 w0
    have e0 : T f = w[0] := by simpa using h0
    have hf0 : rzL (T f) = true := by
      rw [e0]
      exact List.all_eq_true.mp w2 _ (List.getElem_mem w0)
    refine ⟨hfn, hf0, ?_⟩
    have em : (rzT T n f - f).toNat = w.length := by omega
    rw [em]
    unfold rzHw
    have : ∀ m : Nat, m ≤ w.length → rzHs T f m = rzHs (rzWf w) 0 m := fun m => by
      induction m with
      | zero => exact fun _ => rfl
      | succ m ih =>
        intro hm
        show (if m < 10 then rzHs T f m * 32 + T (f + (m : Int)) - 96 else -1) = (if m < 10 then rzHs (rzWf w) 0 m * 32 + rzWf w (0 + (m : Int)) - 96 else -1)
        rw [ih (by omega), rzWd_at h m (by omega), rzWf_at (by omega)]
    exact this _ (Nat.le_refl _)
  · rintro ⟨hfn, hf0, e⟩
    have hall : ∀ i : Nat, i < (rzT T n f - f).toNat → 97 ≤ T (f + (i : Int)) ∧ T (f + (i : Int)) ≤ 122 := fun i hi => rzL_b (rzT_ls hfn hf0 (by omega) (by omega))
    have hpos := (rzHs_nn w1 hl).1
    have hm : (rzT T n f - f).toNat ≤ 10 := by
      by_cases hm : (rzT T n f - f).toNat ≤ 10
      · exact hm
      · exfalso
        obtain ⟨k, hk⟩ : ∃ k : Nat, (rzT T n f - f).toNat = k + 1 := ⟨(rzT T n f - f).toNat - 1, by omega⟩
        rw [hk] at e
        have e : (if k < 10 then rzHs T f k * 32 + T (f + (k : Int)) - 96 else -1) = rzHw w := e
        rw [if_neg (by omega)] at e
        unfold rzHw at e
        omega
    obtain ⟨q, r⟩ := rzHs_inj hm w1 hall hl e
    refine rzWd_of (by omega) fun i hi => ?_
    rw [r i (by omega), rzWf_at hi]
noncomputable def rzIxn (T : Int → Int) (n f : Int) : List (List Int) → Int → Int
  | [], _ => -1
  | w :: r, k => if rzIs T n w f = true then k else rzIxn T n f r (k + 1)
theorem rzWd_u {T : Int → Int} : ∀ {w v : List Int} {f t : Int}, rzWd T w f t = true → rzWd T v f t = true → w = v
  | [], [], _, _, _, _ => rfl
  | [], c :: r, f, t, h, g => by
    have h := rzWd_len h
    have g := rzWd_len g
    simp only [List.length_nil, List.length_cons] at h g
    omega
  | c :: r, [], f, t, h, g => by
    have h := rzWd_len h
    have g := rzWd_len g
    simp only [List.length_nil, List.length_cons] at h g
    omega
  | c :: r, d :: q, f, t, h, g => by
    have h : (decide (T f = c) && rzWd T r (f + 1) t) = true := h
    have g : (decide (T f = d) && rzWd T q (f + 1) t) = true := g
    rw [Bool.and_eq_true] at h g
    have h1 : T f = c := of_decide_eq_true h.1
    have g1 : T f = d := of_decide_eq_true g.1
    rw [← h1, ← g1, rzWd_u h.2 g.2]
theorem rzIs_u {T : Int → Int} {n f : Int} {w v : List Int} (h : rzIs T n w f = true) : rzIs T n v f = decide (v = w) := by
  by_cases e : v = w
  · rw [decide_eq_true e, e]
    exact h
  · rw [decide_eq_false e]
    cases hv : rzIs T n v f with
    | false => rfl
    | true => exact absurd (rzWd_u hv h) e
noncomputable def rzFi (w : List Int) : List (List Int) → Int → Int
  | [], _ => -1
  | v :: r, k => if v = w then k else rzFi w r (k + 1)
theorem rzIxn_u {T : Int → Int} {n f : Int} {w : List Int} (h : rzIs T n w f = true) : ∀ {l : List (List Int)} {k : Int}, rzIxn T n f l k = rzFi w l k
  | [], _ => rfl
  | v :: r, k => by
    show (if rzIs T n v f = true then k else rzIxn T n f r (k + 1)) = (if v = w then k else rzFi w r (k + 1))
    rw [rzIs_u h, rzIxn_u h]
    by_cases e : v = w
    · rw [if_pos e, if_pos (decide_eq_true e)]
    · rw [if_neg e, if_neg (by rw [decide_eq_false e]; decide)]
theorem rzIxn_none {T : Int → Int} {n f : Int} : ∀ {l : List (List Int)} {k : Int}, (∀ w : List Int, w ∈ l → rzIs T n w f = false) → rzIxn T n f l k = -1
  | [], _, _ => rfl
  | v :: r, k, h => by
    show (if rzIs T n v f = true then k else rzIxn T n f r (k + 1)) = -1
    rw [h v List.mem_cons_self, if_neg (by decide), rzIxn_none fun w hw => h w (List.mem_cons_of_mem _ hw)]
theorem rzIs_lt {T : Int → Int} {n f : Int} {w : List Int} (hw : 0 < w.length) (h : rzIs T n w f = true) : f < n := by
  by_cases hf : f < n
  · exact hf
  · have e := rzWd_len h
    rw [rzT_e hf] at e
    omega

noncomputable def rzW_and : List Int := [97, 110, 100]
noncomputable def rzW_or : List Int := [111, 114]
noncomputable def rzW_not : List Int := [110, 111, 116]
noncomputable def rzW_if : List Int := [105, 102]
noncomputable def rzW_in : List Int := [105, 110]
noncomputable def rzW_at : List Int := [97, 116]
noncomputable def rzW_say : List Int := [115, 97, 121]
noncomputable def rzW_go : List Int := [103, 111]
noncomputable def rzW_hush : List Int := [104, 117, 115, 104]
noncomputable def rzW_any : List Int := [97, 110, 121]
noncomputable def rzW_slips : List Int := [115, 108, 105, 112, 115]
noncomputable def rzW_hours : List Int := [104, 111, 117, 114, 115]
noncomputable def rzW_bars : List Int := [98, 97, 114, 115]
noncomputable def rzPn : List (List Int) := [[115, 116, 97, 116, 101], [99, 117, 101], [119, 111, 114, 100], [110, 101, 120, 116], [112, 97, 114, 116], [109, 111, 111, 100]]
noncomputable def rzLn_ : List (List Int) := [[112, 101, 114, 115, 111, 110], [109, 101, 109, 111, 114, 121], [98, 111, 114, 110], [100, 101, 97, 100], [112, 97, 114, 116], [116, 101, 97, 99, 104, 101, 114], [121, 101, 97, 114], [109, 111, 111, 100]]
noncomputable abbrev rzA := Nat × Int × List Int × Bool × Int
noncomputable def rzStep (T : Int → Int) (n : Int) (ws : List (List Int)) (f : Int) (lv : List Int) (pr : Bool) (lf : Int) : rzA :=
  match lv with
  | [] => (2, f, [], pr, lf)
  | s :: rest =>
    if pr = true then
      if rest ≠ [] ∧ s = 0 ∧ rzSg T n 93 f = true then (0, rzN T n f, rest, true, lf)
      else if rest ≠ [] ∧ (s = 3 ∨ s = 4) ∧ rzSg T n 41 f = true then (0, rzN T n f, 4 :: rest.tail, true, lf)
      else if (s = 3 ∨ s = 4) ∧ (rzIs T n rzW_and f = true ∨ rzIs T n rzW_or f = true) then (0, rzN T n f, 1 :: rest, false, lf)
      else if s ≠ 4 ∧ f < n ∧ (T f = 43 ∨ T f = 45 ∨ T f = 42 ∨ T f = 47 ∨ T f = 37) then (0, rzN T n f, s :: rest, false, lf)
      else if s = 2 ∧ f < n ∧ (T f = 60 ∨ T f = 62 ∨ T f = 61) then (0, rzN T n f, 3 :: rest, false, lf)
      else if rest = [] ∧ s ≠ 1 ∧ s ≠ 2 then (1, f, s :: rest, pr, lf)
      else (2, f, s :: rest, pr, lf)
    else
      if rzDg T n f = true ∨ 0 ≤ rzIxn T n f ws 0 then
        (if 1000 < rzNo T n f ∨ 50 ≤ lf then (2, f, s :: rest, pr, lf) else (0, rzN T n f, (if s = 1 then 2 else s) :: rest, true, lf + 1))
      else if s = 1 ∧ rzIs T n rzW_not f = true then (0, rzN T n f, s :: rest, false, lf)
      else if s = 1 ∧ rzSg T n 40 f = true then
        (if rest.length < 8 then (0, rzN T n f, 1 :: 1 :: rest, false, lf) else (2, f, s :: rest, pr, lf))
      else if rzSg T n 91 f = true then
        (if rest.length < 8 then (0, rzN T n f, 0 :: (if s = 1 then 2 else s) :: rest, false, lf) else (2, f, s :: rest, pr, lf))
      else (2, f, s :: rest, pr, lf)
noncomputable abbrev rzR := Bool × Int × Int
noncomputable def rzRun (T : Int → Int) (n : Int) (ws : List (List Int)) : Nat → Int → List Int → Bool → Int → Option rzR
  | 0, _, _, _, _ => none
  | k + 1, f, lv, pr, lf => match rzStep T n ws f lv pr lf with
    | (0, f_p, lv_p, pr_p, lf_p) => rzRun T n ws k f_p lv_p pr_p lf_p
    | (1, _, _, _, _) => some (true, f, lf)
    | _ => some (false, f, lf)
noncomputable def rzRes (T : Int → Int) (n : Int) (ws : List (List Int)) (f : Int) (lv : List Int) (pr : Bool) (lf : Int) (r : rzR) : Prop := ∃ k : Nat, rzRun T n ws k f lv pr lf = some r
theorem rzRes_step {T : Int → Int} {n : Int} {ws : List (List Int)} {f f_p lf lf_p : Int} {lv lv_p : List Int} {pr pr_p : Bool} {r : rzR} (h : rzStep T n ws f lv pr lf = (0, f_p, lv_p, pr_p, lf_p)) (hr : rzRes T n ws f_p lv_p pr_p lf_p r) : rzRes T n ws f lv pr lf r := by
  obtain ⟨k, hk⟩ := hr
  refine ⟨k + 1, ?_⟩
  show (match rzStep T n ws f lv pr lf with
    | (0, f_p, lv_p, pr_p, lf_p) => rzRun T n ws k f_p lv_p pr_p lf_p
    | (1, _, _, _, _) => some (true, f, lf)
    | _ => some (false, f, lf)) = some r
  rw [h]
  exact hk
theorem rzRes_done {T : Int → Int} {n : Int} {ws : List (List Int)} {f f_p lf lf_p : Int} {lv lv_p : List Int} {pr pr_p : Bool} (h : rzStep T n ws f lv pr lf = (1, f_p, lv_p, pr_p, lf_p)) : rzRes T n ws f lv pr lf (true, f, lf) := by
  refine ⟨1, ?_⟩
  show (match rzStep T n ws f lv pr lf with
    | (0, f_p, lv_p, pr_p, lf_p) => rzRun T n ws 0 f_p lv_p pr_p lf_p
    | (1, _, _, _, _) => some (true, f, lf)
    | _ => some (false, f, lf)) = some (true, f, lf)
  rw [h]
  rfl
theorem rzRes_fail {T : Int → Int} {n : Int} {ws : List (List Int)} {f f_p lf lf_p : Int} {lv lv_p : List Int} {pr pr_p : Bool} (h : rzStep T n ws f lv pr lf = (2, f_p, lv_p, pr_p, lf_p)) : rzRes T n ws f lv pr lf (false, f, lf) := by
  refine ⟨1, ?_⟩
  show (match rzStep T n ws f lv pr lf with
    | (0, f_p, lv_p, pr_p, lf_p) => rzRun T n ws 0 f_p lv_p pr_p lf_p
    | (1, _, _, _, _) => some (true, f, lf)
    | _ => some (false, f, lf)) = some (false, f, lf)
  rw [h]
  rfl
theorem rzRun_s {T : Int → Int} {n : Int} {ws : List (List Int)} {r : rzR} : ∀ (k : Nat) (f : Int) (lv : List Int) (pr : Bool) (lf : Int), rzRun T n ws k f lv pr lf = some r → rzRun T n ws (k + 1) f lv pr lf = some r
  | 0, f, lv, pr, lf, h => by cases h
  | k + 1, f, lv, pr, lf, h => by
    have h : (match rzStep T n ws f lv pr lf with
      | (0, f_p, lv_p, pr_p, lf_p) => rzRun T n ws k f_p lv_p pr_p lf_p
      | (1, _, _, _, _) => some (true, f, lf)
      | _ => some (false, f, lf)) = some r := h
    show (match rzStep T n ws f lv pr lf with
      | (0, f_p, lv_p, pr_p, lf_p) => rzRun T n ws (k + 1) f_p lv_p pr_p lf_p
      | (1, _, _, _, _) => some (true, f, lf)
      | _ => some (false, f, lf)) = some r
    match hs : rzStep T n ws f lv pr lf, h with
    | (0, f_p, lv_p, pr_p, lf_p), h => exact rzRun_s k f_p lv_p pr_p lf_p h
    | (1, _, _, _, _), h => exact h
    | (q + 2, _, _, _, _), h => exact h
theorem rzRun_m {T : Int → Int} {n : Int} {ws : List (List Int)} {r : rzR} {f lf : Int} {lv : List Int} {pr : Bool} {k : Nat} (h : rzRun T n ws k f lv pr lf = some r) : ∀ j : Nat, rzRun T n ws (k + j) f lv pr lf = some r
  | 0 => h
  | j + 1 => rzRun_s _ _ _ _ _ (rzRun_m h j)
theorem rzRes_det {T : Int → Int} {n : Int} {ws : List (List Int)} {r r_p : rzR} {f lf : Int} {lv : List Int} {pr : Bool} (h : rzRes T n ws f lv pr lf r) (h_p : rzRes T n ws f lv pr lf r_p) : r = r_p := by
  obtain ⟨k, hk⟩ := h
  obtain ⟨j, hj⟩ := h_p
  have a := rzRun_m hk j
  have b := rzRun_m hj k
  rw [Nat.add_comm j k] at b
  exact Option.some.inj (a.symm.trans b)
noncomputable def rzEx (T : Int → Int) (n : Int) (ws : List (List Int)) (test : Int) (f lf : Int) (r : rzR) : Prop := rzRes T n ws f [test] false lf r
noncomputable def rzCut (T : Int → Int) (i : Int) : Int := if 0 ≤ i ∧ i < 400 then T i else 0
theorem rzCut_at {T : Int → Int} {i x : Int} (h : T i = x) (h0 : 0 ≤ i) (h1 : i < 400) : rzCut T i = x := (if_pos ⟨h0, h1⟩).trans h
theorem rzCut_cg {T U : Int → Int} (h : ∀ i : Int, 0 ≤ i → i < 400 → T i = U i) : rzCut T = rzCut U := funext fun i => by
  unfold rzCut
  by_cases hi : 0 ≤ i ∧ i < 400
  · rw [if_pos hi, if_pos hi, h i hi.1 hi.2]
  · rw [if_neg hi, if_neg hi]
noncomputable def rzDet (P : rzR → Prop) : Prop := ∀ r r_p : rzR, P r → P r_p → r = r_p
noncomputable def rzAlt (c : Bool) (A B : Prop) : Prop := (c = true ∧ A) ∨ (c = false ∧ B)
noncomputable def rzThen (a : rzR → Prop) (b : Int → Int → rzR → Prop) (r : rzR) : Prop := ∃ r1 : rzR, a r1 ∧ ((r1.1 = false ∧ r = r1) ∨ (r1.1 = true ∧ b r1.2.1 r1.2.2 r))
theorem rzDet_eq {a : rzR} : rzDet (fun r => r = a) := fun _ _ h h_p => h.trans h_p.symm
theorem rzDet_alt {c : Bool} {A B : rzR → Prop} (hA : rzDet A) (hB : rzDet B) : rzDet (fun r => rzAlt c (A r) (B r)) := fun r r_p h h_p => by
  rcases h with ⟨h1, h2⟩ | ⟨h1, h2⟩ <;> rcases h_p with ⟨g1, g2⟩ | ⟨g1, g2⟩
  · exact hA r r_p h2 g2
  · rw [h1] at g1
    cases g1
  · rw [h1] at g1
    cases g1
  · exact hB r r_p h2 g2
theorem rzDet_then {a : rzR → Prop} {b : Int → Int → rzR → Prop} (ha : rzDet a) (hb : ∀ f lf : Int, rzDet (b f lf)) : rzDet (rzThen a b) := fun r r_p h h_p => by
  obtain ⟨q, q1, q2⟩ := h
  obtain ⟨q_p, q1_p, q2_p⟩ := h_p
  have e := ha q q_p q1 q1_p
  subst e
  rcases q2 with ⟨h1, h2⟩ | ⟨h1, h2⟩ <;> rcases q2_p with ⟨g1, g2⟩ | ⟨g1, g2⟩
  · exact h2.trans g2.symm
  · rw [h1] at g1
    cases g1
  · rw [h1] at g1
    cases g1
  · exact hb _ _ r r_p h2 g2
noncomputable def rzIf (T : Int → Int) (n : Int) (ws : List (List Int)) (f lf : Int) (r : rzR) : Prop := rzAlt (rzIs T n rzW_if f) (rzEx T n ws 1 (rzN T n f) lf r) (r = (true, f, lf))
noncomputable def rzLC (T : Int → Int) (n : Int) (f lf : Int) (r : rzR) : Prop := rzAlt (rzIs T n rzW_bars f) (rzIf T n rzLn_ (rzN T n f) lf r) (rzAlt (rzIs T n rzW_slips f || rzIs T n rzW_hours f) (rzThen (rzEx T n rzLn_ 0 (rzN T n f) lf) (rzIf T n rzLn_) r) (r = (false, f, lf)))
noncomputable def rzPlc (T : Int → Int) (n f : Int) : Bool := rzIs T n rzW_any f || (rzDg T n f && decide (rzNo T n f ≤ 5))
noncomputable def rzGo (T : Int → Int) (n : Int) (f lf : Int) (r : rzR) : Prop := rzAlt (rzIs T n rzW_go f) (rzThen (rzEx T n rzPn 0 (rzN T n f) lf) (rzIf T n rzPn) r) (rzIf T n rzPn f lf r)
noncomputable def rzP4 (T : Int → Int) (n : Int) (f lf : Int) (r : rzR) : Prop := rzAlt (rzIs T n rzW_hush f) (rzIf T n rzPn (rzN T n f) lf r) (rzAlt (rzIs T n rzW_say f) (rzThen (rzEx T n rzPn 0 (rzN T n f) lf) (rzGo T n) r) (r = (false, f, lf)))
noncomputable def rzP3 (T : Int → Int) (n : Int) (f lf : Int) (r : rzR) : Prop := rzAlt (rzPlc T n f) (rzP4 T n (rzN T n f) lf r) (r = (false, f, lf))
noncomputable def rzP2 (T : Int → Int) (n : Int) (f lf : Int) (r : rzR) : Prop := rzAlt (rzIs T n rzW_at f) (rzP3 T n (rzN T n f) lf r) (r = (false, f, lf))
noncomputable def rzP1 (T : Int → Int) (n : Int) (f lf : Int) (r : rzR) : Prop := rzAlt (rzPlc T n f) (rzP2 T n (rzN T n f) lf r) (r = (false, f, lf))
noncomputable def rzPC (T : Int → Int) (n : Int) (f lf : Int) (r : rzR) : Prop := rzAlt (rzIs T n rzW_in f) (rzP1 T n (rzN T n f) lf r) (r = (false, f, lf))
noncomputable def rzTx (C : Int → Int → rzR → Prop) (T : Int → Int) (n : Int) : Nat → Int → Int → rzR → Prop
  | 0, f, lf, r => r = (false, f, lf)
  | c + 1, f, lf, r => rzThen (C f lf) (fun g lg r => rzAlt (rzSg T n 59 g) (rzTx C T n c (rzN T n g) lg r) (rzAlt (decide (n ≤ g)) (r = (true, g, lg)) (r = (false, g, lg)))) r
noncomputable def rzText (play : Bool) (T : Int → Int) (n : Int) (r : rzR) : Prop := rzTx (if play = true then rzPC T n else rzLC T n) T n 12 (rzF T n 0) 0 r
theorem rzDet_ex {T : Int → Int} {n test f lf : Int} {ws : List (List Int)} : rzDet (rzEx T n ws test f lf) := fun _ _ h h_p => rzRes_det h h_p
theorem rzDet_if {T : Int → Int} {n f lf : Int} {ws : List (List Int)} : rzDet (rzIf T n ws f lf) := rzDet_alt rzDet_ex rzDet_eq
theorem rzDet_lc {T : Int → Int} {n f lf : Int} : rzDet (rzLC T n f lf) := rzDet_alt rzDet_if (rzDet_alt (rzDet_then rzDet_ex fun _ _ => rzDet_if) rzDet_eq)
theorem rzDet_go {T : Int → Int} {n f lf : Int} : rzDet (rzGo T n f lf) := rzDet_alt (rzDet_then rzDet_ex fun _ _ => rzDet_if) rzDet_if
theorem rzDet_pc {T : Int → Int} {n f lf : Int} : rzDet (rzPC T n f lf) := rzDet_alt (rzDet_alt (rzDet_alt (rzDet_alt (rzDet_alt rzDet_if (rzDet_alt (rzDet_then rzDet_ex fun _ _ => rzDet_go) rzDet_eq)) rzDet_eq) rzDet_eq) rzDet_eq) rzDet_eq
theorem rzDet_tx {C : Int → Int → rzR → Prop} {T : Int → Int} {n : Int} (hC : ∀ f lf : Int, rzDet (C f lf)) : ∀ (c : Nat) (f lf : Int), rzDet (rzTx C T n c f lf)
  | 0, _, _ => rzDet_eq
  | c + 1, _, _ => rzDet_then (hC _ _) fun _ _ => rzDet_alt (rzDet_tx hC c _ _) (rzDet_alt rzDet_eq rzDet_eq)
theorem rzDet_text {play : Bool} {T : Int → Int} {n : Int} : rzDet (rzText play T n) := by
  refine rzDet_tx (fun f lf => ?_) 12 _ _
  cases play
  · exact rzDet_lc
  · exact rzDet_pc

noncomputable def rzLs (st : Int → Int) : Nat → List Int
  | 0 => [st 0]
  | b + 1 => st ((b : Int) + 1) :: rzLs st b
noncomputable def rzLr (st : Int → Int) : Nat → List Int
  | 0 => []
  | b + 1 => rzLs st b
theorem rzLs_eq {st : Int → Int} : ∀ {b : Nat}, rzLs st b = st (b : Int) :: rzLr st b
  | 0 => rfl
  | b + 1 => rfl
theorem rzLs_len {st : Int → Int} : ∀ {b : Nat}, (rzLs st b).length = b + 1
  | 0 => rfl
  | b + 1 => by
    show (rzLs st b).length + 1 = b + 1 + 1
    rw [rzLs_len]
theorem rzLr_len {st : Int → Int} : ∀ {b : Nat}, (rzLr st b).length = b
  | 0 => rfl
  | b + 1 => rzLs_len
theorem rzLs_cg {st su : Int → Int} : ∀ {b : Nat}, (∀ i : Int, 0 ≤ i → i ≤ (b : Int) → st i = su i) → rzLs st b = rzLs su b
  | 0, h => by
    show [st 0] = [su 0]
    rw [h 0 (Int.le_refl _) (Int.le_refl _)]
  | b + 1, h => by
    show st ((b : Int) + 1) :: rzLs st b = su ((b : Int) + 1) :: rzLs su b
    rw [h ((b : Int) + 1) (by omega) (by omega), rzLs_cg fun i a c => h i a (by omega)]
theorem rzLr_cg {st su : Int → Int} : ∀ {b : Nat}, (∀ i : Int, 0 ≤ i → i < (b : Int) → st i = su i) → rzLr st b = rzLr su b
  | 0, _ => rfl
  | b + 1, h => rzLs_cg fun i a c => h i a (by omega)
noncomputable def rzLv (S : Nat → Int → Int) : List Int := rzLs (fun i => S 424 i) (S 412 8).toNat
noncomputable def rzLq (S : Nat → Int → Int) : List Int := rzLr (fun i => S 424 i) (S 412 8).toNat
theorem rzLv_eq {S : Nat → Int → Int} (h : 0 ≤ S 412 8) : rzLv S = S 424 (S 412 8) :: rzLq S := by
  unfold rzLv rzLq
  rw [rzLs_eq, Int.toNat_of_nonneg h]
theorem rzLq_len {S : Nat → Int → Int} : (rzLq S).length = (S 412 8).toNat := rzLr_len
theorem rzLv_set {S0 S : Nat → Int → Int} {v : Int} (b0 : 0 ≤ S0 412 8) (h8 : S 412 8 = S0 412 8) (hv : S 424 (S0 412 8) = v) (hr : ∀ i : Int, 0 ≤ i → i < S0 412 8 → S 424 i = S0 424 i) : rzLv S = v :: rzLq S0 := by
  rw [rzLv_eq (by omega), h8, hv]
  unfold rzLq
  rw [h8, rzLr_cg fun i a c => hr i a (by omega)]
theorem rzLv_open {S0 S : Nat → Int → Int} {v u : Int} (b0 : 0 ≤ S0 412 8) (h8 : S 412 8 = S0 412 8 + 1) (hv : S 424 (S0 412 8 + 1) = v) (hu : S 424 (S0 412 8) = u) (hr : ∀ i : Int, 0 ≤ i → i < S0 412 8 → S 424 i = S0 424 i) : rzLv S = v :: u :: rzLq S0 := by
  rw [rzLv_eq (by omega), h8, hv]
  have e : (S0 412 8 + 1).toNat = (S0 412 8).toNat + 1 := by omega
  unfold rzLq
  rw [h8, e]
  show v :: rzLs (fun i => S 424 i) (S0 412 8).toNat = _
  rw [rzLs_eq, Int.toNat_of_nonneg b0, hu, rzLr_cg fun i a c => hr i a (by omega)]
theorem rzLv_close {S0 S : Nat → Int → Int} (b1 : 1 ≤ S0 412 8) (h8 : S 412 8 = S0 412 8 - 1) (hr : ∀ i : Int, 0 ≤ i → i < S0 412 8 → S 424 i = S0 424 i) : rzLv S = rzLq S0 := by
  unfold rzLv rzLq
  rw [h8, show (S0 412 8).toNat = (S0 412 8 - 1).toNat + 1 by omega]
  exact rzLs_cg fun i a c => hr i a (by omega)
theorem rzLv_close4 {S0 S : Nat → Int → Int} (b1 : 1 ≤ S0 412 8) (h8 : S 412 8 = S0 412 8 - 1) (hv : S 424 (S0 412 8 - 1) = 4) (hr : ∀ i : Int, 0 ≤ i → i < S0 412 8 - 1 → S 424 i = S0 424 i) : rzLv S = 4 :: (rzLq S0).tail := by
  rw [rzLv_eq (by omega), h8, hv]
  unfold rzLq
  rw [h8, show (S0 412 8).toNat = (S0 412 8 - 1).toNat + 1 by omega]
  show _ = 4 :: (rzLs (fun i => S0 424 i) (S0 412 8 - 1).toNat).tail
  rw [rzLs_eq]
  show 4 :: _ = 4 :: rzLr (fun i => S0 424 i) (S0 412 8 - 1).toNat
  rw [rzLr_cg fun i a c => hr i a (by omega)]
section RZST
variable {T : Int → Int} {n : Int} {ws : List (List Int)} {f lf s : Int} {rest : List Int}
theorem rzStep_0 : rzStep T n ws f (s :: rest) false lf = (if rzDg T n f = true ∨ 0 ≤ rzIxn T n f ws 0 then (if 1000 < rzNo T n f ∨ 50 ≤ lf then (2, f, s :: rest, false, lf) else (0, rzN T n f, (if s = 1 then 2 else s) :: rest, true, lf + 1)) else if s = 1 ∧ rzIs T n rzW_not f = true then (0, rzN T n f, s :: rest, false, lf) else if s = 1 ∧ rzSg T n 40 f = true then (if rest.length < 8 then (0, rzN T n f, 1 :: 1 :: rest, false, lf) else (2, f, s :: rest, false, lf)) else if rzSg T n 91 f = true then (if rest.length < 8 then (0, rzN T n f, 0 :: (if s = 1 then 2 else s) :: rest, false, lf) else (2, f, s :: rest, false, lf)) else (2, f, s :: rest, false, lf)) := rfl
theorem rzStep_1 : rzStep T n ws f (s :: rest) true lf = (if rest ≠ [] ∧ s = 0 ∧ rzSg T n 93 f = true then (0, rzN T n f, rest, true, lf) else if rest ≠ [] ∧ (s = 3 ∨ s = 4) ∧ rzSg T n 41 f = true then (0, rzN T n f, 4 :: rest.tail, true, lf) else if (s = 3 ∨ s = 4) ∧ (rzIs T n rzW_and f = true ∨ rzIs T n rzW_or f = true) then (0, rzN T n f, 1 :: rest, false, lf) else if s ≠ 4 ∧ f < n ∧ (T f = 43 ∨ T f = 45 ∨ T f = 42 ∨ T f = 47 ∨ T f = 37) then (0, rzN T n f, s :: rest, false, lf) else if s = 2 ∧ f < n ∧ (T f = 60 ∨ T f = 62 ∨ T f = 61) then (0, rzN T n f, 3 :: rest, false, lf) else if rest = [] ∧ s ≠ 1 ∧ s ≠ 2 then (1, f, s :: rest, true, lf) else (2, f, s :: rest, true, lf)) := rfl
end RZST
theorem rzLq_ne {S : Nat → Int → Int} (h : 1 ≤ S 412 8) : rzLq S ≠ [] := fun e => by
  have q := rzLq_len (S := S)
  rw [e] at q
  simp only [List.length_nil] at q
  omega
theorem rzLq_nil {S : Nat → Int → Int} (h : S 412 8 = 0) : rzLq S = [] := by
  unfold rzLq
  rw [h]
  rfl
noncomputable def rzOp (T : Int → Int) (n f s : Int) : Int := if (s = 3 ∨ s = 4) ∧ rzIs T n rzW_and f = true then 4 else if (s = 3 ∨ s = 4) ∧ rzIs T n rzW_or f = true then 5 else if s = 4 ∨ n ≤ f then -1 else if T f = 43 then 6 else if T f = 45 then 7 else if T f = 42 then 8 else if T f = 47 then 9 else if T f = 37 then 10 else if s = 2 ∧ T f = 60 then 11 else if s = 2 ∧ T f = 62 then 12 else if s = 2 ∧ T f = 61 then 13 else -1
noncomputable def rzStr (st : Int) : Int := if st = 0 then 0 else if st = 5 then 1 else if st = 4 then 2 else if st = 3 then 3 else if st = 6 ∨ st = 7 then 5 else if 8 ≤ st ∧ st ≤ 10 then 6 else 4
noncomputable def rzNc (T : Int → Int) (n f s : Int) (rest : List Int) : Prop := ¬ (rest ≠ [] ∧ s = 0 ∧ rzSg T n 93 f = true) ∧ ¬ (rest ≠ [] ∧ (s = 3 ∨ s = 4) ∧ rzSg T n 41 f = true)
theorem rzOp_c {T : Int → Int} {n f s : Int} {ws : List (List Int)} {lf : Int} {rest : List Int} (hc : rzNc T n f s rest) : (rzOp T n f s = -1 ∧ rzStep T n ws f (s :: rest) true lf = (if rest = [] ∧ s ≠ 1 ∧ s ≠ 2 then (1, f, s :: rest, true, lf) else (2, f, s :: rest, true, lf))) ∨ ((rzOp T n f s = 4 ∨ rzOp T n f s = 5) ∧ rzStep T n ws f (s :: rest) true lf = (0, rzN T n f, 1 :: rest, false, lf)) ∨ (6 ≤ rzOp T n f s ∧ rzOp T n f s ≤ 10 ∧ rzStep T n ws f (s :: rest) true lf = (0, rzN T n f, s :: rest, false, lf)) ∨ (11 ≤ rzOp T n f s ∧ rzOp T n f s ≤ 13 ∧ rzStep T n ws f (s :: rest) true lf = (0, rzN T n f, 3 :: rest, false, lf)) := by
  rw [rzStep_1, if_neg hc.1, if_neg hc.2]
  unfold rzOp
  by_cases ha : (s = 3 ∨ s = 4) ∧ rzIs T n rzW_and f = true
  · rw [if_pos ha, if_pos ⟨ha.1, Or.inl ha.2⟩]
    exact Or.inr (Or.inl ⟨Or.inl rfl, rfl⟩)
  · rw [if_neg ha]
    by_cases ho : (s = 3 ∨ s = 4) ∧ rzIs T n rzW_or f = true
    · rw [if_pos ho, if_pos ⟨ho.1, Or.inr ho.2⟩]
      exact Or.inr (Or.inl ⟨Or.inr rfl, rfl⟩)
    · rw [if_neg ho, if_neg (show ¬ ((s = 3 ∨ s = 4) ∧ (rzIs T n rzW_and f = true ∨ rzIs T n rzW_or f = true)) from fun g => g.2.elim (fun q => ha ⟨g.1, q⟩) (fun q => ho ⟨g.1, q⟩))]
      by_cases h4 : s = 4 ∨ n ≤ f
      · rw [if_pos h4, if_neg (show ¬ (s ≠ 4 ∧ f < n ∧ (T f = 43 ∨ T f = 45 ∨ T f = 42 ∨ T f = 47 ∨ T f = 37)) by omega), if_neg (show ¬ (s = 2 ∧ f < n ∧ (T f = 60 ∨ T f = 62 ∨ T f = 61)) by omega)]
        exact Or.inl ⟨rfl, rfl⟩
      · rw [if_neg h4]
        by_cases hA : T f = 43 ∨ T f = 45 ∨ T f = 42 ∨ T f = 47 ∨ T f = 37
        · rw [if_pos (show s ≠ 4 ∧ f < n ∧ (T f = 43 ∨ T f = 45 ∨ T f = 42 ∨ T f = 47 ∨ T f = 37) from ⟨by omega, by omega, hA⟩)]
          refine Or.inr (Or.inr (Or.inl ⟨?_, ?_, rfl⟩))
          · (repeat' split) <;> omega
          · (repeat' split) <;> omega
        · rw [if_neg (show ¬ (s ≠ 4 ∧ f < n ∧ (T f = 43 ∨ T f = 45 ∨ T f = 42 ∨ T f = 47 ∨ T f = 37)) from fun g => hA g.2.2)]
          by_cases hB : s = 2 ∧ (T f = 60 ∨ T f = 62 ∨ T f = 61)
          · rw [if_pos (show s = 2 ∧ f < n ∧ (T f = 60 ∨ T f = 62 ∨ T f = 61) from ⟨hB.1, by omega, hB.2⟩)]
            refine Or.inr (Or.inr (Or.inr ⟨?_, ?_, rfl⟩))
            · (repeat' split) <;> omega
            · (repeat' split) <;> omega
          · rw [if_neg (show ¬ (s = 2 ∧ f < n ∧ (T f = 60 ∨ T f = 62 ∨ T f = 61)) from fun g => hB ⟨g.1, g.2.2⟩)]
            refine Or.inl ⟨?_, rfl⟩
            (repeat' split) <;> omega
theorem rz424 {S : Nat → Int → Int} {j : Int} (h0 : 0 ≤ j) (h1 : j < 9) (h : bx_okT rxL (rxL.2.2.1 424 j) (S 424 j)) : 0 ≤ S 424 j ∧ S 424 j ≤ 4 := by
  have e : ∀ j : Nat, j < 9 → rxL.2.2.1 424 (j : Int) = (0, 0, 4) := by
    have key : (List.range 9).all (fun j => decide (rxL.2.2.1 424 (j : Int) = (0, 0, 4))) = true := by decide +kernel
    exact fun j hj => of_decide_eq_true (List.all_eq_true.mp key j (List.mem_range.mpr hj))
  have q := e j.toNat (by omega)
  rw [Int.toNat_of_nonneg h0] at q
  rw [q] at h
  exact h

noncomputable def rxTxs : List (List Int) := [[97, 110, 100], [97, 110, 121], [97, 116], [98, 97, 114, 115], [98, 111, 114, 110], [99, 117, 101], [100, 101, 97, 100], [103, 111], [104, 111, 117, 114, 115], [104, 117, 115, 104], [105, 102], [105, 110], [109, 101, 109, 111, 114, 121], [109, 111, 111, 100], [110, 101, 120, 116], [110, 111, 116], [111, 114], [112, 97, 114, 116], [112, 101, 114, 115, 111, 110], [115, 97, 121], [115, 108, 105, 112, 115], [115, 116, 97, 116, 101], [116, 101, 97, 99, 104, 101, 114], [119, 111, 114, 100], [121, 101, 97, 114]]
noncomputable def rxTxn (k : Int) : List Int := (rxTxs[(k - 522).toNat]?).getD []
noncomputable def rxCh (k i : Int) : Int := ((rxTxn k)[i.toNat]?).getD 0
theorem rxTxn_b {k i : Int} : 0 ≤ rxCh k i ∧ rxCh k i ≤ 122 := by
  have key : rxTxs.all (fun w => w.all (fun c => decide (0 ≤ c ∧ c ≤ 122))) = true := by decide +kernel
  unfold rxCh rxTxn
  cases h : rxTxs[(k - 522).toNat]? with
  | none =>
    have h0 : ((Option.getD (none : Option (List Int)) [])[i.toNat]?).getD 0 = 0 := by simp
    rw [h0]
    exact ⟨Int.le_refl 0, by decide⟩
  | some w =>
    cases h2 : w[i.toNat]? with
    | none =>
      show 0 ≤ ((w[i.toNat]?).getD 0 : Int) ∧ ((w[i.toNat]?).getD 0 : Int) ≤ 122
      rw [h2]
      exact ⟨Int.le_refl 0, by decide⟩
    | some c =>
      show 0 ≤ ((w[i.toNat]?).getD 0 : Int) ∧ ((w[i.toNat]?).getD 0 : Int) ≤ 122
      rw [h2]
      exact of_decide_eq_true (List.all_eq_true.mp (List.all_eq_true.mp key w (List.mem_of_getElem? h)) c (List.mem_of_getElem? h2))
theorem rxTxn_len : ∀ k : Nat, k < 25 → ((rxTxn (522 + (k : Int))).length : Int) = rxLn (522 + (k : Int)) := by
  have key : (List.range 25).all (fun k => decide (((rxTxn (522 + (k : Int))).length : Int) = rxLn (522 + (k : Int)))) = true := by decide +kernel
  exact fun k hk => of_decide_eq_true (List.all_eq_true.mp key k (List.mem_range.mpr hk))
noncomputable def rs_T3 (A : Nat → Prop) (a v n : Nat) (w : List Int) (U : State) : Prop := rs_T A a v n U ∧ ∃ g : Nat → Int32, va_T .byte v n (fun j => .int (g j)) A U U.heap ∧ ∀ j : Nat, j < n → (g j).toInt = (w[j]?).getD 0
theorem rs_T3.to {A : Nat → Prop} {a v n : Nat} {w : List Int} {u U : State} (h : rs_T3 A a v n w u) (hvm : u.vm.Alike U.vm) (hh : U.heap = u.heap) : rs_T3 A a v n w U := by
  obtain ⟨h1, g, h2, h3⟩ := h
  refine ⟨h1.to hvm hh, g, ?_, h3⟩
  rw [hh]
  exact h2.moved hvm
theorem rs_T3.kept {A : Nat → Prop} {a v n : Nat} {w : List Int} {u U : State} (h : rs_T3 A a v n w u) (hvm : u.vm.Alike U.vm) (hq : ∀ a : Nat, a < u.heap.size → ¬ A a → U.heap[a]? = u.heap[a]?) : rs_T3 A a v n w U := by
  obtain ⟨h1, g, h2, h3⟩ := h
  exact ⟨h1.kept hvm hq, g, (h2.moved hvm).kept hq, h3⟩
theorem rs_blind3 {A : Nat → Prop} {a v n : Nat} {w : List Int} {as : List Value} : FrameBlind (va_Pc as (rs_T3 A a v n w)) := fun _ U g mk h => ⟨h.1, h.2.to (U := U.calling g mk _) (Vm.Alike.refl U.vm) rfl⟩
set_option maxHeartbeats 4000000 in
set_option maxRecDepth 100000 in
theorem rsM_lch3 (l : Launch) (A : Nat → Prop) (a v n : Nat) (w : List Int) (i : Int32) (hi0 : 0 ≤ i.toInt) (hi1 : i.toInt < (n : Int)) : Met l rsY_lch (Jvm.Cond.code rsY_lch rsB_lch 2 (some .char) :: rxG) (rs_rm 2) (va_Pc [.ref v, .int i] (rs_T3 A a v n w)) (rs_Q (fun x => ∃ b : Int32, x = some (.int (b &&& 255)) ∧ b.toInt = (w[i.toInt.toNat]?).getD 0)) 0 0 A := by
  refine Met.ofW (cc := rsB_lch) (maxL := 2) (ret := (some .char)) (by decide) rfl ?_
  intro p e s m args below meth c s₁ B hml hv
  obtain ⟨rfl, hT, f, t4, hf⟩ := hv
  have hx := B.exec
  have hb := B.bytes
  have hr := B.returns
  have hts0 := atoms_spec (ws := Jvm.Cond.code rsY_lch rsB_lch 2 (some .char) :: rxG) B.pre
  have hts : ∀ w ∈ rxG, w.before _ s = true := fun w h => hts0 w (List.mem_cons_of_mem _ h)
  have hown : s.vm.findClass "java/lang/StringLatin1" = some m.cls := findClass_of_methodNamed B.named
  have hlocks := B.notSynchronized
  have hS : va_S A s.heap s.heap [] := va_S.rf
  have hl := lv_entry ([.ref v, .int i]) (n := 2) (Nat.le_of_ble_eq_true rfl)
  rw [lg_entry_eq]
  generalize (lg_sl ([.ref v, .int i]) ++ List.replicate (2 - (lg_sl ([.ref v, .int i])).length) Slot.unset).toArray = ls at hl ⊢
  have hl : lv_has ls 2 [(0, .ref v), (1, .int i)] := hl
  obtain ⟨t1, t2, t3, -, t5, t6, t7⟩ := id hT
  have hn : (Int32.ofNat n).toInt = (n : Int) := nI_toInt (by omega)
  have h0 : ¬ i < 0 := fun h => by
    rw [Int32.lt_iff_toInt_lt] at h
    have z : (0 : Int32).toInt = 0 := by decide
    omega
  have h1 : i < Int32.ofNat n := by
    rw [Int32.lt_iff_toInt_lt]
    omega
  refine lv_iload_n hx hb rsD_lch_0 rfl (lv_at hl 1 rfl) ?_
  refine lv_aload_n hx hb rsD_lch_1 rfl (lv_at hl 0 rfl) ?_
  refine va_tlen hx hb t4 hS rfl rsD_lch_2 ?_
  refine rs_go (va_runS (As := [.int i, .int (Int32.ofNat n)]) (rest := []) (nL := 2) ⟨hx, hb, hml, hown, hts⟩ (rsM_ci l A a v n i (Int32.ofNat n) h0 h1) ⟨rs_B (n := 2) hts rsK_ci rsW_iS (by decide) (by decide +kernel) rsW_mci (Nat.le_of_ble_eq_true rfl) (Nat.le_of_ble_eq_true rfl) (by decide), hts _ rsW_st_ci⟩ ⟨rs_blind, fun U hU hW => ⟨rfl, hT.to hW.alike hU⟩⟩ rfl rfl hl.1 rfl (lv_room (Nat.le_of_ble_eq_true rfl)) rsD_lch_3 ⟨Nat.zero_le _, Nat.zero_le _⟩) hS fun x locs1 hw hS => ?_
  subst hw
  refine lv_aload_n hx hb rsD_lch_6 rfl (lv_at hl 0 rfl) ?_
  refine lv_iload_n hx hb rsD_lch_7 rfl (lv_at hl 1 rfl) ?_
  refine va_tb hx hb t4 hS (i := i) (v := .int (f i.toNatClampNeg)) (vp_in_iff.mpr ⟨hi0, hi1⟩) rfl rsD_lch_8 ?_
  refine lv_sipush hx hb (v := 255) rsD_lch_9 (by decide) ?_
  refine lv_iand hx hb rsD_lch_12 ?_
  refine lv_i2c hx hb (v := f i.toNatClampNeg &&& 255) rsD_lch_13 (sc_c2 _) ?_
  exact W.zret hx hb hr (sc_nar _) (fun t ht hW => ⟨⟨_, rfl, _, rfl, hf _ (show i.toInt.toNat < n by omega)⟩, ht⟩) hS.2.2 rsD_lch_14
set_option maxHeartbeats 4000000 in
set_option maxRecDepth 100000 in
theorem rsM_chr3 (l : Launch) (A : Nat → Prop) (a v n : Nat) (w : List Int) (i : Int32) (hi0 : 0 ≤ i.toInt) (hi1 : i.toInt < (n : Int)) : Met l rsY_chr (Jvm.Cond.code rsY_chr rsB_chr 2 (some .char) :: rxG) (rs_rm 3) (va_Pc [.ref a, .int i] (rs_T3 A a v n w)) (rs_Q (fun x => ∃ b : Int32, x = some (.int (b &&& 255)) ∧ b.toInt = (w[i.toInt.toNat]?).getD 0)) 0 0 A := by
  refine Met.ofW (cc := rsB_chr) (maxL := 2) (ret := (some .char)) (by decide) rfl ?_
  intro p e s m args below meth c s₁ B hml hv
  obtain ⟨rfl, hT3⟩ := hv
  have hT := hT3.1
  have hx := B.exec
  have hb := B.bytes
  have hr := B.returns
  have hts0 := atoms_spec (ws := Jvm.Cond.code rsY_chr rsB_chr 2 (some .char) :: rxG) B.pre
  have hts : ∀ w ∈ rxG, w.before _ s = true := fun w h => hts0 w (List.mem_cons_of_mem _ h)
  have hown : s.vm.findClass "java/lang/String" = some m.cls := findClass_of_methodNamed B.named
  have hlocks := B.notSynchronized
  have hS : va_S A s.heap s.heap [] := va_S.rf
  have hl := lv_entry ([.ref a, .int i]) (n := 2) (Nat.le_of_ble_eq_true rfl)
  rw [lg_entry_eq]
  generalize (lg_sl ([.ref a, .int i]) ++ List.replicate (2 - (lg_sl ([.ref a, .int i])).length) Slot.unset).toArray = ls at hl ⊢
  have hl : lv_has ls 2 [(0, .ref a), (1, .int i)] := hl
  obtain ⟨t1, t2, t3, ⟨f, t4⟩, t5, t6, t7⟩ := id hT
  have hrecv : ∃ cell : Cell, s.heap[a]? = some cell ∧ cell.vm.isStatics = false ∧ s.vm.findClass "java/lang/String" = some cell.cls := by
    obtain ⟨cell, g1, g2, g3, -⟩ := t1
    exact ⟨cell, g1, g2, g3⟩
  refine lv_aload_n hx hb rsD_chr_0 rfl (lv_at hl 0 rfl) ?_
  refine rs_go (va_runV (As := []) (b := a) (rest := []) (nL := 2) ⟨hx, hb, hml, hown, hts⟩ (rsM_isl l A a v n) ⟨rs_B hts rsK_isl rsW_iS (by decide) (by decide +kernel) rsW_mis (Nat.le_of_ble_eq_true rfl) (Nat.le_of_ble_eq_true rfl) (by decide), hts _ rsW_in_isl, hts _ rsW_se_isl⟩ ⟨rs_blind, hrecv, fun U hU hW => ⟨rfl, hT.to hW.alike hU⟩⟩ rfl rfl hl.1 rfl (lv_room (Nat.le_of_ble_eq_true rfl)) rsD_chr_1 ⟨Nat.zero_le _, Nat.zero_le _⟩) hS fun x locs1 hw hS => ?_
  subst hw
  refine lv_if_eq (x := 1) hx hb rsD_chr_4 (tgt := 16) rfl (fun h => absurd h (by decide)) (fun _ => ?_)
  refine lv_aload_n hx hb rsD_chr_7 rfl (lv_at hl 0 rfl) ?_
  refine vk_getf hx hb t3 hS hown (hts _ rsW_va) (fun _ h => h) rsD_chr_8 ?_
  refine lv_iload_n hx hb rsD_chr_11 rfl (lv_at hl 1 rfl) ?_
  refine rs_go (va_runS (As := [.ref v, .int i]) (rest := []) (nL := 2) ⟨hx, hb, hml, hown, hts⟩ (rsM_lch3 l A a v n w i hi0 hi1) ⟨rs_B (n := 2) hts rsK_lch rsW_iL (by decide) (by decide +kernel) rsW_mlc (Nat.le_of_ble_eq_true rfl) (Nat.le_of_ble_eq_true rfl) (by decide), hts _ rsW_st_lch⟩ ⟨rs_blind3, fun U hU hW => ⟨rfl, hT3.to hW.alike hU⟩⟩ rfl rfl hl.1 rfl (lv_room (Nat.le_of_ble_eq_true rfl)) rsD_chr_12 ⟨Nat.zero_le _, Nat.zero_le _⟩) hS fun x locs1 hw hS => ?_
  obtain ⟨b, rfl, hbw⟩ := hw
  exact W.zret hx hb hr (sc_nar _) (fun t ht hW => ⟨⟨_, rfl, _, rfl, hbw⟩, ht⟩) hS.2.2 rsD_chr_15
section RXTX
variable {PX : State → Prop} {Dg : va_G} {A : Nat → Prop} {ad xa av : Nat → Nat} {l : Launch} {X : (Nat → Int → Int) → Prop}
variable {p : Program} {e : Env} {R : Room} {s : State} {m : MethodId} {args : Array Value} {below : List Frame} {meth : Method} {c : Code} {Q : State → Prop} {H0 : Heap}
noncomputable def rx_obT3 (X : (Nat → Int → Int) → Prop) (Sin : Nat → Int → Int) (ms : List (Nat × Nat)) (inv : Nat → bx_SP) (mea : Nat → (Nat → Int → Int) → (Nat → Int) → Nat) (i i_p : Nat) (z : rx_Z) (k ix : rx_E) (lo hi : Int) : Prop :=
  ∀ (S : Nat → Int → Int) (r : Nat → Int), inv i S r → X S → bx_Inv rxL S → bx_same rxL (bx_mdl ms) Sin S → rx_sat z.1 r → rx_facts z.2.1 r →
    (522 ≤ rx_ev r k ∧ rx_ev r k < 547) ∧ (0 ≤ rx_ev r ix ∧ rx_ev r ix < rxLn (rx_ev r k)) ∧ ∀ r_p : Nat → Int, rx_same z.1.length r r_p → r_p 0 = 0 → r_p z.1.length = rxCh (rx_ev r k) (rx_ev r ix) → (lo ≤ r_p z.1.length ∧ r_p z.1.length ≤ hi) → inv i_p S r_p ∧ mea i_p S r_p < mea i S r
noncomputable def rx_hstr3 (PX : State → Prop) (A : Nat → Prop) (ad av : Nat → Nat) : Prop := ∀ U : State, PX U → ∀ k : Int, 522 ≤ k → k < 547 → rs_T3 A (ad k.toNat) (av k.toNat) (rxLn k).toNat (rxTxn k) U
theorem rx_stepC3 {tab : List bx_HE} {inv : Nat → bx_SP} {mea : Nat → (Nat → Int → Int) → (Nat → Int) → Nat} {Sin : Nat → Int → Int} {ms : List (Nat × Nat)} {i i_p : Nat} {z : rx_Z} {os : List bx_HO} {es : List (rx_End × List (Nat × Int × Int))} {q_p : bx_HE} {k ix : rx_E} {lo hi : Int} {t : List rx_V}
    (hstr : rx_hstr3 PX A ad av) (hPX : rx_PXOK rxNW A PX) (hF : rx_Fr rxG rxNW rxAO PX p s m args meth c rxM59) (hA : ∀ q, H0.size ≤ q → A q) (hH0 : H0 = s.heap) (hd : 4 ≤ R.frames) (hdl : 4 * 40 ≤ R.locals)
    (hdg : decode rxM59.2.1 (rx_zpc z) = .ok (.invokevirtual 242, 3)) (hne : bx_noE z.2.2.1 = true) (hst : rx_zst z = .inr (0, ix) :: .inr (3, k) :: t) (hct : rx_cats t ≤ 8) (hz : z.2.2.2.1 = 0 ∧ z.2.2.2.2.1 = 0)
    (htab : tab[i_p]? = some q_p) (hq_p : rx_nxI (z.1 ++ [(lo, hi)]) z 3 (.inr (0, (z.1.length, 0)) :: t) = q_p.1) (hlh : lo ≤ 0 ∧ 255 ≤ hi) (hob : rx_obT3 X Sin ms inv mea i i_p z k ix lo hi) :
    bx_Step p l e R s m args below meth c Q Dg rxL X vwCl A xa H0 ad rxM59 tab inv mea Sin ms i (z, os, es) := by
  intro S r H locs ls hinv hXS hsin hR K
  obtain ⟨Sq, ⟨ws0, tys0, hInv0, hrest0⟩, hS, ⟨-, hch0⟩, -⟩ := id hR.2.2.2.1
  have eSq : Sq = S := bx_noE_eq hne (hch0 rfl)
  rw [eSq] at hInv0
  have hInv0 : bx_Inv rxL S := hInv0
  obtain ⟨⟨o1, o2⟩, o4, o3⟩ := hob S r hinv hXS hInv0 hsin hR.1 hR.2.1
  obtain ⟨q0, q1⟩ := o4
  obtain ⟨hx, hb, hr, hml, hown, hlk, hts, hnw, hao, hpx, hini⟩ := id hF
  have hT := (hstr s hpx _ o1 o2).1
  have hbx := rxLn_box (k := rx_ev r k)
  have hi1 := bx_toI (a := rx_ev r ix) (by omega)
  have hsc := rx_stsc hR
  rw [hst] at hsc
  have ht2 : ∀ v ∈ t, rx_sc z.1.length z.2.2.1.length v := fun v hv => hsc v (List.mem_cons_of_mem _ (List.mem_cons_of_mem _ hv))
  have hrecv : ∃ cell : Cell, H[ad (rx_ev r k).toNat]? = some cell ∧ cell.vm.isStatics = false ∧ s.vm.findClass "java/lang/String" = some cell.cls := by
    have hS2 := hS
    rw [hH0] at hS2
    obtain ⟨cell, g1, g2, g3, -⟩ := hT.1.kept hS2.2.1
    exact ⟨cell, g1, g2, g3⟩
  rw [hst]
  show W p l e R s m args below meth c H locs z.2.2.2.1 z.2.2.2.2.1 Q (F0 m (rx_zpc z) ls (.int (Int32.ofInt (rx_ev r ix)) :: .ref (ad (rx_ev r k).toNat) :: t.map (rx_iv r ad xa)))
  refine rs_go (va_runV (As := [.int (Int32.ofInt (rx_ev r ix))]) (b := ad (rx_ev r k).toNat) (rest := t.map (rx_iv r ad xa)) (nL := rxM59.2.2.1) (own := rxM59.2.2.2.2.1.cls) ⟨hx, hb, hml, hown, hts⟩ (rsM_chr3 l A (ad (rx_ev r k).toNat) (av (rx_ev r k).toNat) (rxLn (rx_ev r k)).toNat (rxTxn (rx_ev r k)) (Int32.ofInt (rx_ev r ix)) (by rw [hi1]; omega) (by rw [hi1]; omega)) ⟨rs_B (n := 1) hts rsK_chr rsW_iS (by decide) (by decide +kernel) rsW_mch (by omega) (by omega) (by decide), hts _ rsW_in_chr, hts _ rsW_se_chr⟩ ⟨rs_blind3, hrecv, fun U hU hW => ⟨rfl, hstr U (rx_pre_at hPX hF hA hH0 hR U hU hW).2.2.1 _ o1 o2⟩⟩ rfl rfl (rx_lvh hR).1 rfl (lv_room (by rw [rx_cats_sum]; exact hct)) hdg ⟨by omega, by omega⟩) hS fun w locs1 hw hS1 => ?_
  obtain ⟨b, rfl, hbw⟩ := hw
  rw [hi1] at hbw
  have hbw : b.toInt = rxCh (rx_ev r k) (rx_ev r ix) := hbw
  have hcb := rxTxn_b (k := rx_ev r k) (i := rx_ev r ix)
  have hx3 : (b &&& 255).toInt = rxCh (rx_ev r k) (rx_ev r ix) := by
    have e := bx_opvB_ok (o := 32) (a := b.toInt) (b := 255) (by decide) ⟨by omega, rfl⟩
    rw [Int32.ofInt_toInt] at e
    have e2 : (b &&& 255).toInt = b.toInt % 256 := e
    rw [e2, hbw]
    omega
  obtain ⟨b2, b3⟩ := o3 (rx_up r z.1.length (b &&& 255).toInt) rx_up_same ((rx_up_same 0 (rx_pos hR.1)).trans hR.1.1) (rx_up_self.trans hx3) (by rw [rx_up_self]; omega)
  exact rx_stepT hXS hsin hR ht2 hS1 K htab hq_p (by omega) b2 b3
end RXTX
