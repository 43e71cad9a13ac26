/-! AN INT OPERATION by hand, with its exact answer: remainder, shift right, the last bit -/
def bx_opv (o : Nat) (a b : Int) : Int := match o with
  | 4 => a % b
  | 9 => a / ((2 ^ b.toNat : Nat) : Int)
  | 6 => ((a.toNat ||| b.toNat : Nat) : Int)
  | _ => a % 2
def bx_opc (o : Nat) (a b : Int) : Prop := (0 ≤ a ∧ a ≤ 2147483647) ∧ match o with
  | 4 => 0 < b ∧ b ≤ 2147483647
  | 9 => 0 ≤ b ∧ b ≤ 31
  | 5 => b = 1
  | 6 => 0 ≤ b ∧ b ≤ 2147483647
  | _ => False
theorem bx_toI {a : Int} (h : -2147483648 ≤ a ∧ a ≤ 2147483647) : (Int32.ofInt a).toInt = a := by
  rw [Int32.toInt_ofInt]
  exact rx_bmod0 h.1 h.2
theorem bx_opv_ok {o : Nat} {a b : Int} (h : bx_opc o a b) : (rx_op o (Int32.ofInt a) (Int32.ofInt b)).toInt = bx_opv o a b := by
  obtain ⟨ha, hb⟩ := h
  have ea := bx_toI (a := a) (by omega)
  match o, hb with
  | 4, hb =>
    have hb : 0 < b ∧ b ≤ 2147483647 := hb
    show (Int32.ofInt a - Int32.ofInt a / Int32.ofInt b * Int32.ofInt b).toInt = a % b
    rw [rem_toInt, ea, bx_toI (by omega), Int.tmod_eq_emod_of_nonneg ha.1]
  | 9, hb =>
    have hb : 0 ≤ b ∧ b ≤ 31 := hb
    show (Int32.ofInt a >>> (Int32.ofInt b &&& 31)).toInt = a / ((2 ^ b.toNat : Nat) : Int)
    rw [← Int32.toInt_toBitVec (Int32.ofInt a >>> (Int32.ofInt b &&& 31)), Int32.toBitVec_shiftRight]
    unfold BitVec.sshiftRight'
    rw [BitVec.toInt_sshiftRight, Int32.toInt_toBitVec, Int.shiftRight_eq_div_pow, ea]
    have := rx_shn b.toNat (by omega)
    rw [show ((b.toNat : Nat) : Int) = b by omega] at this
    rw [this]
  | 5, hb =>
    have hb : b = 1 := hb
    subst hb
    show (Int32.ofInt a &&& Int32.ofInt 1).toInt = a % 2
    have h0 : 0 ≤ (Int32.ofInt a).toInt := by omega
    obtain ⟨-, h1⟩ := rx_nn h0
    have h2 := rx_andb (y := Int32.ofInt 1) h0
    obtain ⟨-, h3⟩ := rx_nn h2.1
    rw [h3, Int32.toBitVec_and, BitVec.toNat_and]
    rw [ea] at h1
    rw [show (Int32.ofInt 1).toBitVec.toNat = 1 by decide, Nat.and_one_is_mod]
    omega
  | 6, hb =>
    have hb : 0 ≤ b ∧ b ≤ 2147483647 := hb
    have eb := bx_toI (a := b) (by omega)
    show (Int32.ofInt a ||| Int32.ofInt b).toInt = ((a.toNat ||| b.toNat : Nat) : Int)
    have h0 : 0 ≤ (Int32.ofInt a).toInt := by omega
    have h1 : 0 ≤ (Int32.ofInt b).toInt := by omega
    obtain ⟨-, h2⟩ := rx_nn h0
    obtain ⟨-, h3⟩ := rx_nn h1
    have h4 := (rx_orb (n := 31) h0 h1 (by rw [ea]; omega) (by rw [eb]; omega)).1.1
    obtain ⟨-, h5⟩ := rx_nn h4
    rw [h5, Int32.toBitVec_or, BitVec.toNat_or, show (Int32.ofInt a).toBitVec.toNat = a.toNat by omega, show (Int32.ofInt b).toBitVec.toNat = b.toNat by omega]
section RXOP
variable {PX : State → Prop} {Dg : va_G} {A : Nat → Prop} {ad xa : Nat → Nat} {l : Launch} {X : (Nat → Int → Int) → Prop}
variable {p : Program} {e : Env} {R : Room} {s : State} {m : MethodId} {args : Array Value} {below : List Frame} {meth : Method} {c : Code} {Q : State → Prop} {H0 : Heap}
def rx_obB (X : (Nat → Int → Int) → Prop) (Sin : Nat → Int → Int) (ms : List (Nat × Nat)) (inv : Nat → bx_SP) (mea : Nat → (Nat → Int → Int) → (Nat → Int) → Nat) (i i_p : Nat) (z : rx_Z) (o : Nat) (a b : rx_E) (lo hi : Int) : Prop :=
  ∀ (S : Nat → Int → Int) (r : Nat → Int), inv i S r → X S → bx_Inv rxL S → bx_same rxL (bx_mdl ms) Sin S → rx_sat z.1 r → rx_facts z.2.1 r →
    bx_opc o (rx_ev r a) (rx_ev r b) ∧ ∀ r_p : Nat → Int, rx_same z.1.length r r_p → r_p 0 = 0 → r_p z.1.length = bx_opv o (rx_ev r a) (rx_ev r b) → (lo ≤ r_p z.1.length ∧ r_p z.1.length ≤ hi) ∧ inv i_p S r_p ∧ mea i_p S r_p < mea i S r
theorem rx_stepB {M : rx_Mt} {tab : List bx_HE} {inv : Nat → bx_SP} {mea : Nat → (Nat → Int → Int) → (Nat → Int) → Nat} {Sin : Nat → Int → Int} {ms : List (Nat × Nat)} {i i_p o : Nat} {ins : Instr} {z : rx_Z} {os : List bx_HO} {es : List (rx_End × List (Nat × Int × Int))} {q_p : bx_HE} {a b : rx_E} {lo hi : Int} {t : List rx_V}
    (hF : rx_Fr rxG rxNW rxAO PX p s m args meth c M) (ho : (o = 4 ∧ ins = .irem) ∨ (o = 9 ∧ ins = .ishr) ∨ (o = 5 ∧ ins = .iand) ∨ (o = 6 ∧ ins = .ior)) (hdg : decode M.2.1 (rx_zpc z) = .ok (ins, 1)) (hne : bx_noE z.2.2.1 = true) (hst : rx_zst z = .inr (0, b) :: .inr (0, a) :: t)
    (htab : tab[i_p]? = some q_p) (hq' : rx_nxI (z.1 ++ [(lo, hi)]) z 1 (.inr (0, (z.1.length, 0)) :: t) = q_p.1) (hob : rx_obB X Sin ms inv mea i i_p z o a b lo hi) :
    bx_Step p l e R s m args below meth c Q Dg rxL X vwCl A xa H0 ad M tab inv mea Sin ms i (z, os, es) := by
  intro S r H locs ls hinv hXS hsin hR K
  obtain ⟨Sq, ⟨ws0, tys0, hInv0, hrest0⟩, -, ⟨-, hch0⟩, -⟩ := id hR.2.2.2.1
  have eSq : Sq = S := bx_noE_eq hne (hch0 rfl)
  rw [eSq] at hInv0
  have hInv0 : bx_Inv rxL S := hInv0
  obtain ⟨o1, o2⟩ := hob S r hinv hXS hInv0 hsin hR.1 hR.2.1
  have hv := bx_opv_ok o1
  have hb0 : o = 4 → ¬ Int32.ofInt (rx_ev r b) = 0 := fun ho4 hz => by
    subst ho4
    have h1 : 0 < rx_ev r b ∧ rx_ev r b ≤ 2147483647 := o1.2
    have h2 := bx_toI (a := rx_ev r b) (by omega)
    rw [hz] at h2
    have h3 : (0 : Int32).toInt = 0 := rfl
    omega
  obtain ⟨b1, b2, b3⟩ := o2 (rx_up r z.1.length (rx_op o (Int32.ofInt (rx_ev r a)) (Int32.ofInt (rx_ev r b))).toInt) rx_up_same ((rx_up_same 0 (rx_pos hR.1)).trans hR.1.1) (rx_up_self.trans hv)
  rw [rx_up_self] at b1
  have hsat := rx_sat_up (lo := lo) (hi := hi) hR.1 b1.1 b1.2
  have hsc := rx_stsc hR
  rw [hst] at hsc
  have ht2 : ∀ v ∈ t, rx_sc z.1.length z.2.2.1.length v := fun v hv => hsc v (List.mem_cons_of_mem _ (List.mem_cons_of_mem _ hv))
  have hlen : z.1.length ≤ (z.1 ++ [(lo, hi)]).length := by simp
  have hN := rx_R_nxI (d := 1) (st := .inr (0, (z.1.length, 0)) :: t) hR hlen rx_up_same hsat (fun v hv => by
    rcases List.mem_cons.mp hv with h | h
    · subst h
      show z.1.length < (z.1 ++ [(lo, hi)]).length
      simp
    · exact rx_sc.mono (ht2 v h) hlen trivial)
  rw [hq'] at hN
  have k := K i_p q_p S _ H locs ls htab b2 b3 hXS hsin hN
  rw [← hq'] at k
  have ev : rx_iv (rx_up r z.1.length (rx_op o (Int32.ofInt (rx_ev r a)) (Int32.ofInt (rx_ev r b))).toInt) ad xa (.inr (0, (z.1.length, 0))) = Value.int (rx_op o (Int32.ofInt (rx_ev r a)) (Int32.ofInt (rx_ev r b))) := by
    show Value.int (Int32.ofInt (rx_ev _ (z.1.length, 0))) = _
    unfold rx_ev
    rw [rx_up_self, Int.add_zero, Int32.ofInt_toInt]
  have et := rx_st_ext (ad := ad) (ad' := ad) (xa := xa) ht2 (rx_up_same (r := r) (n := z.1.length) (z := (rx_op o (Int32.ofInt (rx_ev r a)) (Int32.ofInt (rx_ev r b))).toInt)) rx_sameA.rf
  have row : W p l e R s m args below meth c H locs z.2.2.2.1 z.2.2.2.2.1 Q (F0 m (rx_zpc z + 1) ls (.int (rx_op o (Int32.ofInt (rx_ev r a)) (Int32.ofInt (rx_ev r b))) :: t.map (rx_iv r ad xa))) → W p l e R s m args below meth c H locs z.2.2.2.1 z.2.2.2.2.1 Q (F0 m (rx_zpc z) ls (.int (Int32.ofInt (rx_ev r b)) :: .int (Int32.ofInt (rx_ev r a)) :: t.map (rx_iv r ad xa))) := fun k => by
    rcases ho with ⟨h1, h2⟩ | ⟨h1, h2⟩ | ⟨h1, h2⟩ | ⟨h1, h2⟩
    · have := hb0 h1
      subst h1
      subst h2
      exact lv_irem hF.1 hF.2.1 hdg this k
    · subst h1
      subst h2
      exact lv_ishr hF.1 hF.2.1 hdg k
    · subst h1
      subst h2
      exact lv_iand hF.1 hF.2.1 hdg k
    · subst h1
      subst h2
      exact lv_ior hF.1 hF.2.1 hdg k
  rw [hst]
  refine row ?_
  rw [← ev, ← et]
  obtain ⟨zI, zF, zh, zc, zs, zp, zl, zt⟩ := z
  exact k
end RXOP
