/-! INTS: shifts of any number, the last eight bits, a sum: by hand with their exact answers -/
def bx_opvB (o : Nat) (a b : Int) : Int := if o = 32 then a % 256 else if o = 33 then a + b else if o = 34 then a - b else if o = 30 then a / ((2 ^ b.toNat : Nat) : Int) else if b = 0 then a else (a % 4294967296) / ((2 ^ b.toNat : Nat) : Int)
def bx_opcB (o : Nat) (a b : Int) : Prop := (-2147483648 ≤ a ∧ a ≤ 2147483647) ∧ (if o = 32 then b = 255 else if o = 33 then -2147483648 ≤ b ∧ b ≤ 2147483647 ∧ -2147483648 ≤ a + b ∧ a + b ≤ 2147483647 else if o = 34 then -2147483648 ≤ b ∧ b ≤ 2147483647 ∧ -2147483648 ≤ a - b ∧ a - b ≤ 2147483647 else b = 24 ∨ b = 16 ∨ b = 8 ∨ b = 0)
def bx_mdB (o : Nat) : Nat := if o = 32 then 5 else if o = 33 then 0 else if o = 34 then 1 else if o = 30 then 9 else 10
theorem bx_toN {a : Int} : (Int32.ofInt a).toUInt32.toNat = (a % 4294967296).toNat := by
  rw [← Int32.toNat_toBitVec, Int32.toBitVec_ofInt, BitVec.toNat_ofInt]
  rfl
theorem bx_ush {x s : UInt32} {n : Nat} (h : s.toNat % 32 = n) : (x >>> s).toInt32.toInt = (((x.toNat / 2 ^ n : Nat) : Int)).bmod 4294967296 := by
  have e : (x >>> s).toInt32.toInt = (((x >>> s).toNat : Nat) : Int).bmod (2 ^ 32) := BitVec.toInt_eq_toNat_bmod _
  rw [e, UInt32.toNat_shiftRight, h, Nat.shiftRight_eq_div_pow]
theorem bx_opvB_ok {o : Nat} {a b : Int} (ho : o = 30 ∨ o = 31 ∨ o = 32 ∨ o = 33 ∨ o = 34) (h : bx_opcB o a b) : (rx_op (bx_mdB o) (Int32.ofInt a) (Int32.ofInt b)).toInt = bx_opvB o a b := by
  obtain ⟨ha, hb⟩ := h
  have ea := bx_toI (a := a) (by omega)
  rcases ho with rfl | rfl | rfl | rfl | rfl
  · have hb : b = 24 ∨ b = 16 ∨ b = 8 ∨ b = 0 := hb
    show (Int32.ofInt a >>> (Int32.ofInt b &&& 31)).toInt = a / ((2 ^ b.toNat : Nat) : Int)
    rw [← Int32.toInt_toBitVec (Int32.ofInt a >>> (Int32.ofInt b &&& 31)), Int32.toBitVec_shiftRight]
    unfold BitVec.sshiftRight'
    rw [BitVec.toInt_sshiftRight, Int32.toInt_toBitVec, Int.shiftRight_eq_div_pow, ea]
    have := rx_shn b.toNat (by omega)
    rw [show ((b.toNat : Nat) : Int) = b by omega] at this
    rw [this]
  · have hb : b = 24 ∨ b = 16 ∨ b = 8 ∨ b = 0 := hb
    show ((Int32.ofInt a).toUInt32 >>> ((Int32.ofInt b).toUInt32 &&& Int32.toUInt32 31)).toInt32.toInt = if b = 0 then a else (a % 4294967296) / ((2 ^ b.toNat : Nat) : Int)
    rcases hb with rfl | rfl | rfl | rfl
    · rw [bx_ush (n := 24) (by decide), bx_toN, if_neg (by decide)]
      show _ = a % 4294967296 / 16777216
      rw [Int.bmod_eq_of_le (by omega) (by omega)]
      omega
    · rw [bx_ush (n := 16) (by decide), bx_toN, if_neg (by decide)]
      show _ = a % 4294967296 / 65536
      rw [Int.bmod_eq_of_le (by omega) (by omega)]
      omega
    · rw [bx_ush (n := 8) (by decide), bx_toN, if_neg (by decide)]
      show _ = a % 4294967296 / 256
      rw [Int.bmod_eq_of_le (by omega) (by omega)]
      omega
    · rw [bx_ush (n := 0) (by decide), bx_toN, if_pos rfl, Int.bmod_def]
      omega
  · have hb : b = 255 := hb
    subst hb
    show (Int32.ofInt a &&& Int32.ofInt 255).toInt = a % 256
    have e : (Int32.ofInt a &&& Int32.ofInt 255).toBitVec.toNat = (a % 4294967296).toNat % 256 := by
      rw [Int32.toBitVec_and, BitVec.toNat_and, Int32.toNat_toBitVec, bx_toN, show (Int32.ofInt 255).toBitVec.toNat = 2 ^ 8 - 1 by decide, Nat.and_two_pow_sub_one_eq_mod]
    have e2 : (Int32.ofInt a &&& Int32.ofInt 255).toInt = (((a % 4294967296).toNat % 256 : Nat) : Int) := by
      rw [← e]
      exact BitVec.toInt_eq_toNat_of_lt (by rw [e]; omega)
    rw [e2]
    omega
  · have hb : -2147483648 ≤ b ∧ b ≤ 2147483647 ∧ -2147483648 ≤ a + b ∧ a + b ≤ 2147483647 := hb
    show (Int32.ofInt a + Int32.ofInt b).toInt = a + b
    rw [Int32.toInt_add, ea, bx_toI (a := b) (by omega)]
    exact rx_bmod0 hb.2.2.1 hb.2.2.2
  · have hb : -2147483648 ≤ b ∧ b ≤ 2147483647 ∧ -2147483648 ≤ a - b ∧ a - b ≤ 2147483647 := hb
    show (Int32.ofInt a - Int32.ofInt b).toInt = a - b
    rw [Int32.toInt_sub, ea, bx_toI (a := b) (by omega)]
    exact rx_bmod0 hb.2.2.1 hb.2.2.2
section RXOP
variable {PX : State → Prop} {Dg : va_G} {A : Nat → Prop} {ad xa : Nat → Nat} {l : Launch} {X : (Nat → Int → Int) → Prop}
variable {p : Program} {e : Env} {R : Room} {s : State} {m : MethodId} {args : Array Value} {below : List Frame} {meth : Method} {c : Code} {Q : State → Prop} {H0 : Heap}
def rx_obBB (X : (Nat → Int → Int) → Prop) (Sin : Nat → Int → Int) (ms : List (Nat × Nat)) (inv : Nat → bx_SP) (mea : Nat → (Nat → Int → Int) → (Nat → Int) → Nat) (i i' : Nat) (z : rx_Z) (o : Nat) (a b : rx_E) (lo hi : Int) : Prop :=
  ∀ (S : Nat → Int → Int) (r : Nat → Int), inv i S r → X S → bx_Inv rxL S → bx_same rxL (bx_mdl ms) Sin S → rx_sat z.1 r → rx_facts z.2.1 r →
    bx_opcB o (rx_ev r a) (rx_ev r b) ∧ ∀ r' : Nat → Int, rx_same z.1.length r r' → r' 0 = 0 → r' z.1.length = bx_opvB o (rx_ev r a) (rx_ev r b) → (lo ≤ r' z.1.length ∧ r' z.1.length ≤ hi) ∧ inv i' S r' ∧ mea i' S r' < mea i S r
theorem rx_stepBB {M : rx_Mt} {tab : List bx_HE} {inv : Nat → bx_SP} {mea : Nat → (Nat → Int → Int) → (Nat → Int) → Nat} {Sin : Nat → Int → Int} {ms : List (Nat × Nat)} {i i' o : Nat} {ins : Instr} {z : rx_Z} {os : List bx_HO} {es : List (rx_End × List (Nat × Int × Int))} {q' : bx_HE} {a b : rx_E} {lo hi : Int} {t : List rx_V}
    (hF : rx_Fr rxG rxNW rxAO PX p s m args meth c M) (ho : (o = 30 ∧ ins = .ishr) ∨ (o = 31 ∧ ins = .iushr) ∨ (o = 32 ∧ ins = .iand) ∨ (o = 33 ∧ ins = .iadd) ∨ (o = 34 ∧ ins = .isub)) (hdg : decode M.2.1 (rx_zpc z) = .ok (ins, 1)) (hne : bx_noE z.2.2.1 = true) (hst : rx_zst z = .inr (0, b) :: .inr (0, a) :: t)
    (htab : tab[i']? = some q') (hq' : rx_nxI (z.1 ++ [(lo, hi)]) z 1 (.inr (0, (z.1.length, 0)) :: t) = q'.1) (hob : rx_obBB X Sin ms inv mea i i' z o a b lo hi) :
    bx_Step p l e R s m args below meth c Q Dg rxL X vwCl A xa H0 ad M tab inv mea Sin ms i (z, os, es) := by
  intro S r H locs ls hinv hXS hsin hR K
  obtain ⟨Sq, ⟨ws0, tys0, hInv0, hrest0⟩, -, ⟨-, hch0⟩, -⟩ := id hR.2.2.2.1
  have eSq : Sq = S := bx_noE_eq hne (hch0 rfl)
  rw [eSq] at hInv0
  have hInv0 : bx_Inv rxL S := hInv0
  obtain ⟨o1, o2⟩ := hob S r hinv hXS hInv0 hsin hR.1 hR.2.1
  have hv := bx_opvB_ok (by rcases ho with h | h | h | h | h <;> simp [h.1]) o1
  obtain ⟨b1, b2, b3⟩ := o2 (rx_up r z.1.length (rx_op (bx_mdB o) (Int32.ofInt (rx_ev r a)) (Int32.ofInt (rx_ev r b))).toInt) rx_up_same ((rx_up_same 0 (rx_pos hR.1)).trans hR.1.1) (rx_up_self.trans hv)
  rw [rx_up_self] at b1
  have hsat := rx_sat_up (lo := lo) (hi := hi) hR.1 b1.1 b1.2
  have hsc := rx_stsc hR
  rw [hst] at hsc
  have ht2 : ∀ v ∈ t, rx_sc z.1.length z.2.2.1.length v := fun v hv => hsc v (List.mem_cons_of_mem _ (List.mem_cons_of_mem _ hv))
  have hlen : z.1.length ≤ (z.1 ++ [(lo, hi)]).length := by simp
  have hN := rx_R_nxI (d := 1) (st := .inr (0, (z.1.length, 0)) :: t) hR hlen rx_up_same hsat (fun v hv => by
    rcases List.mem_cons.mp hv with h | h
    · subst h
      show z.1.length < (z.1 ++ [(lo, hi)]).length
      simp
    · exact rx_sc.mono (ht2 v h) hlen trivial)
  rw [hq'] at hN
  have k := K i' q' S _ H locs ls htab b2 b3 hXS hsin hN
  rw [← hq'] at k
  have ev : rx_iv (rx_up r z.1.length (rx_op (bx_mdB o) (Int32.ofInt (rx_ev r a)) (Int32.ofInt (rx_ev r b))).toInt) ad xa (.inr (0, (z.1.length, 0))) = Value.int (rx_op (bx_mdB o) (Int32.ofInt (rx_ev r a)) (Int32.ofInt (rx_ev r b))) := by
    show Value.int (Int32.ofInt (rx_ev _ (z.1.length, 0))) = _
    unfold rx_ev
    rw [rx_up_self, Int.add_zero, Int32.ofInt_toInt]
  have et := rx_st_ext (ad := ad) (ad' := ad) (xa := xa) ht2 (rx_up_same (r := r) (n := z.1.length) (z := (rx_op (bx_mdB o) (Int32.ofInt (rx_ev r a)) (Int32.ofInt (rx_ev r b))).toInt)) rx_sameA.rf
  have row : W p l e R s m args below meth c H locs z.2.2.2.1 z.2.2.2.2.1 Q (F0 m (rx_zpc z + 1) ls (.int (rx_op (bx_mdB o) (Int32.ofInt (rx_ev r a)) (Int32.ofInt (rx_ev r b))) :: t.map (rx_iv r ad xa))) → W p l e R s m args below meth c H locs z.2.2.2.1 z.2.2.2.2.1 Q (F0 m (rx_zpc z) ls (.int (Int32.ofInt (rx_ev r b)) :: .int (Int32.ofInt (rx_ev r a)) :: t.map (rx_iv r ad xa))) := fun k => by
    rcases ho with ⟨h1, h2⟩ | ⟨h1, h2⟩ | ⟨h1, h2⟩ | ⟨h1, h2⟩ | ⟨h1, h2⟩
    · subst h1
      subst h2
      exact lv_ishr hF.1 hF.2.1 hdg k
    · subst h1
      subst h2
      exact lv_iushr hF.1 hF.2.1 hdg rfl k
    · subst h1
      subst h2
      exact lv_iand hF.1 hF.2.1 hdg k
    · subst h1
      subst h2
      exact lv_iadd hF.1 hF.2.1 hdg k
    · subst h1
      subst h2
      exact lv_isub hF.1 hF.2.1 hdg k
  rw [hst]
  refine row ?_
  rw [← ev, ← et]
  obtain ⟨zI, zF, zh, zc, zs, zp, zl, zt⟩ := z
  exact k
end RXOP
/-! BYTES -/
def rzBy (a j : Int) : Int := if j = 0 then a / 16777216 % 256 else if j = 1 then a / 65536 % 256 else if j = 2 then a / 256 % 256 else a % 256
def rzQ (k n a old i : Int) : Int := if n ≤ i ∧ i < n + k then rzBy a (i - n) else old
def rzFd (n b1 b2 b3 b4 b5 old i : Int) : Int := rzQ 4 (n + 16) b5 (rzQ 4 (n + 12) b4 (rzQ 4 (n + 8) b3 (rzQ 4 (n + 4) b2 (rzQ 4 (n + 0) b1 old i) i) i) i) i
theorem rzQ_0 {n a old i : Int} : rzQ 0 n a old i = old := if_neg (by omega)
theorem rzQ_s {k k' n a old i : Int} (e : k' = k + 1) (h : i ≠ n + k) : rzQ k' n a old i = rzQ k n a old i := by
  subst e
  unfold rzQ
  by_cases h1 : n ≤ i ∧ i < n + k
  · rw [if_pos h1, if_pos (by omega)]
  · rw [if_neg h1, if_neg (by omega)]
theorem rzQ_n {k k' n a old i : Int} (e : k' = k + 1) (h : i = n + k) (hk : 0 ≤ k) : rzQ k' n a old i = rzBy a k := by
  subst e
  subst h
  unfold rzQ
  rw [if_pos (by omega), show n + k - n = k by omega]
theorem rzBy_sh {a k sh : Int} (h0 : 0 ≤ k) (h1 : k ≤ 3) (hs : sh = 24 - 8 * k) {o : Nat} (ho : o = 30 ∨ o = 31) : bx_opvB 32 (bx_opvB o a sh) 255 = rzBy a k := by
  have : k = 0 ∨ k = 1 ∨ k = 2 ∨ k = 3 := by omega
  rcases this with rfl | rfl | rfl | rfl
  · obtain rfl : sh = 24 := by omega
    rcases ho with rfl | rfl
    · rfl
    · show a % 4294967296 / 16777216 % 256 = a / 16777216 % 256
      omega
  · obtain rfl : sh = 16 := by omega
    rcases ho with rfl | rfl
    · rfl
    · show a % 4294967296 / 65536 % 256 = a / 65536 % 256
      omega
  · obtain rfl : sh = 8 := by omega
    rcases ho with rfl | rfl
    · rfl
    · show a % 4294967296 / 256 % 256 = a / 256 % 256
      omega
  · obtain rfl : sh = 0 := by omega
    rcases ho with rfl | rfl
    · show a / 1 % 256 = a % 256
      omega
    · rfl
theorem rzSh_b {a k sh : Int} (h0 : 0 ≤ k) (h1 : k ≤ 3) (hs : sh = 24 - 8 * k) (a0 : -2147483648 ≤ a) (a1 : a ≤ 2147483647) {o : Nat} (ho : o = 30 ∨ o = 31) : -2147483648 ≤ bx_opvB o a sh ∧ bx_opvB o a sh ≤ 2147483647 := by
  have : k = 0 ∨ k = 1 ∨ k = 2 ∨ k = 3 := by omega
  rcases this with rfl | rfl | rfl | rfl
  · obtain rfl : sh = 24 := by omega
    rcases ho with rfl | rfl
    · show -2147483648 ≤ a / 16777216 ∧ a / 16777216 ≤ 2147483647
      omega
    · show -2147483648 ≤ a % 4294967296 / 16777216 ∧ a % 4294967296 / 16777216 ≤ 2147483647
      omega
  · obtain rfl : sh = 16 := by omega
    rcases ho with rfl | rfl
    · show -2147483648 ≤ a / 65536 ∧ a / 65536 ≤ 2147483647
      omega
    · show -2147483648 ≤ a % 4294967296 / 65536 ∧ a % 4294967296 / 65536 ≤ 2147483647
      omega
  · obtain rfl : sh = 8 := by omega
    rcases ho with rfl | rfl
    · show -2147483648 ≤ a / 256 ∧ a / 256 ≤ 2147483647
      omega
    · show -2147483648 ≤ a % 4294967296 / 256 ∧ a % 4294967296 / 256 ≤ 2147483647
      omega
  · obtain rfl : sh = 0 := by omega
    rcases ho with rfl | rfl
    · show -2147483648 ≤ a / 1 ∧ a / 1 ≤ 2147483647
      omega
    · show -2147483648 ≤ a ∧ a ≤ 2147483647
      omega
/-! a ROW of bytes: which RULES come -/
def rzOk (T : Int → Int) (n k : Int) : Bool := decide (k + 3 < n ∧ T k ≤ 5 ∧ T (k + 1) ≤ 5 ∧ T (k + 2) ≤ 9 ∧ T (k + 3) ≤ 5)
def rzCnt (T : Int → Int) (n : Int) : Nat → Int
  | 0 => 0
  | m + 1 => rzCnt T n m + if rzOk T n (4 * (m : Int)) then 1 else 0
def rzRC (S : Nat → Int → Int) (p : Nat) (f : Int) (t : Nat) : Int := rzCnt (fun i => S t i) (S p f) ((S p f + 3) / 4).toNat
def rzPR (S : Nat → Int → Int) (p : Nat) (f : Int) (t : Nat) : Int := (S p f + 3) / 4 - rzRC S p f t
theorem rzOk_t {T : Int → Int} {n k : Int} (h : k + 3 < n ∧ T k ≤ 5 ∧ T (k + 1) ≤ 5 ∧ T (k + 2) ≤ 9 ∧ T (k + 3) ≤ 5) : rzOk T n k = true := decide_eq_true h
theorem rzOk_f {T : Int → Int} {n k : Int} (h : ¬ (k + 3 < n ∧ T k ≤ 5 ∧ T (k + 1) ≤ 5 ∧ T (k + 2) ≤ 9 ∧ T (k + 3) ≤ 5)) : rzOk T n k = false := decide_eq_false h
theorem rzCnt_t {T : Int → Int} {n k c c' : Int} {m : Nat} (hk : k = 4 * (m : Int)) (h : rzOk T n k = true) (e : c = rzCnt T n m) (e2 : c' = c + 1) : c' = rzCnt T n (m + 1) := by
  subst hk
  show c' = rzCnt T n m + _
  rw [h, if_pos rfl, e2, e]
theorem rzCnt_f {T : Int → Int} {n k c : Int} {m : Nat} (hk : k = 4 * (m : Int)) (h : rzOk T n k = false) (e : c = rzCnt T n m) : c = rzCnt T n (m + 1) := by
  subst hk
  show c = rzCnt T n m + _
  rw [h, if_neg (by decide), e, Int.add_zero]
theorem rzCnt_b {T : Int → Int} {n : Int} : ∀ m : Nat, 0 ≤ rzCnt T n m ∧ rzCnt T n m ≤ (m : Int)
  | 0 => ⟨Int.le_refl 0, Int.le_refl 0⟩
  | m + 1 => by
    have h := rzCnt_b (T := T) (n := n) m
    show 0 ≤ rzCnt T n m + (if rzOk T n (4 * (m : Int)) then 1 else 0) ∧ rzCnt T n m + (if rzOk T n (4 * (m : Int)) then 1 else 0) ≤ ((m + 1 : Nat) : Int)
    split <;> omega
theorem rzOk_cg {T U : Int → Int} {n k : Int} (h : ∀ i : Int, 0 ≤ i → i < 400 → T i = U i) (hn : n ≤ 400) (hk : 0 ≤ k) : rzOk T n k = rzOk U n k := by
  by_cases h1 : k + 3 < n
  · unfold rzOk
    rw [h k (by omega) (by omega), h (k + 1) (by omega) (by omega), h (k + 2) (by omega) (by omega), h (k + 3) (by omega) (by omega)]
  · rw [rzOk_f (fun h2 => h1 h2.1), rzOk_f (fun h2 => h1 h2.1)]
theorem rzCnt_cg {T U : Int → Int} {n : Int} (h : ∀ i : Int, 0 ≤ i → i < 400 → T i = U i) (hn : n ≤ 400) : ∀ m : Nat, rzCnt T n m = rzCnt U n m
  | 0 => rfl
  | m + 1 => by
    show rzCnt T n m + (if rzOk T n (4 * (m : Int)) then 1 else 0) = rzCnt U n m + (if rzOk U n (4 * (m : Int)) then 1 else 0)
    rw [rzCnt_cg h hn m, rzOk_cg h hn (by omega)]
theorem rzRC_cg {S S' : Nat → Int → Int} {p q t u : Nat} {f g : Int} (e : S p f = S' q g) (hn : S p f ≤ 400) (h : ∀ i : Int, 0 ≤ i → i < 400 → S t i = S' u i) : rzRC S p f t = rzRC S' q g u := by
  unfold rzRC
  rw [← e]
  exact rzCnt_cg h hn _
theorem rzPR_cg {S S' : Nat → Int → Int} {p q t u : Nat} {f g : Int} (e : S p f = S' q g) (hn : S p f ≤ 400) (h : ∀ i : Int, 0 ≤ i → i < 400 → S t i = S' u i) : rzPR S p f t = rzPR S' q g u := by
  unfold rzPR
  rw [rzRC_cg e hn h, e]
/-- a row of slots, of a kind that isn't written -/
theorem rz_fd {ms : List (Nat × Nat)} {S S' : Nat → Int → Int} (hs : bx_same rxL (bx_mdl ms) S S') {p n c k : Nat} (hm : bx_mdl ms c k = false) (hp : p < rxL.2.1) (h : (List.range n).all (fun i => Nat.blt i (bx_wd (rxL.1 p)) && (Nat.beq (bx_mc (rxL.1 p) i).1 c && Nat.beq (bx_mc (rxL.1 p) i).2 k)) = true) (i : Int) (i0 : 0 ≤ i) (i1 : i < n) : S' p i = S p i := by
  have hi := List.all_eq_true.mp h i.toNat (List.mem_range.mpr (by omega))
  rw [Bool.and_eq_true, Bool.and_eq_true, Nat.blt_eq] at hi
  have q := hs p i.toNat hp hi.1 (by rw [Nat.eq_of_beq_eq_true hi.2.1, Nat.eq_of_beq_eq_true hi.2.2]; exact hm)
  rwa [Int.toNat_of_nonneg i0] at q
