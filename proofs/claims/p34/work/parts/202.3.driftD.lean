/-! LONGS: times and through, by hand with their exact answers -/
def bx_opvL (o : Nat) (a b : Int) : Int := if o = 20 then a * b else a / b
def bx_opcL (o : Nat) (a b : Int) : Prop := (-9223372036854775808 ≤ a ∧ a ≤ 9223372036854775807) ∧ (-9223372036854775808 ≤ b ∧ b ≤ 9223372036854775807) ∧ (if o = 20 then -9223372036854775808 ≤ a * b ∧ a * b ≤ 9223372036854775807 else 0 ≤ a ∧ 0 < b)
def bx_mdL (o : Nat) (x y : Int64) : Int64 := if o = 20 then x * y else x / y
theorem bx_toL {a : Int} (h : -9223372036854775808 ≤ a ∧ a ≤ 9223372036854775807) : (Int64.ofInt a).toInt = a := Int64.toInt_ofInt_of_le (by omega) (by omega)
theorem bx_bmodL {a : Int} (h : -9223372036854775808 ≤ a ∧ a ≤ 9223372036854775807) : a.bmod (2 ^ 64) = a := Int.bmod_eq_of_le (by omega) (by omega)
theorem bx_opvL_ok {o : Nat} {a b : Int} (h : bx_opcL o a b) : (bx_mdL o (Int64.ofInt a) (Int64.ofInt b)).toInt = bx_opvL o a b := by
  obtain ⟨ha, hb, hc⟩ := h
  unfold bx_mdL bx_opvL
  by_cases ho : o = 20
  · rw [if_pos ho] at hc
    rw [if_pos ho, if_pos ho, Int64.toInt_mul, bx_toL ha, bx_toL hb, bx_bmodL hc]
  · rw [if_neg ho] at hc
    rw [if_neg ho, if_neg ho, Int64.toInt_div, bx_toL ha, bx_toL hb, Int.tdiv_eq_ediv_of_nonneg hc.1]
    refine bx_bmodL ⟨?_, ?_⟩
    · have := Int.ediv_nonneg hc.1 (Int.le_of_lt hc.2)
      omega
    · have := Int.ediv_le_self b hc.1
      omega
section RXOP
variable {PX : State → Prop} {Dg : va_G} {A : Nat → Prop} {ad xa : Nat → Nat} {l : Launch} {X : (Nat → Int → Int) → Prop}
variable {p : Program} {e : Env} {R : Room} {s : State} {m : MethodId} {args : Array Value} {below : List Frame} {meth : Method} {c : Code} {Q : State → Prop} {H0 : Heap}
def rx_obBL (X : (Nat → Int → Int) → Prop) (Sin : Nat → Int → Int) (ms : List (Nat × Nat)) (inv : Nat → bx_SP) (mea : Nat → (Nat → Int → Int) → (Nat → Int) → Nat) (i i_p : Nat) (z : rx_Z) (o : Nat) (a b : rx_E) (lo hi : Int) : Prop :=
  ∀ (S : Nat → Int → Int) (r : Nat → Int), inv i S r → X S → bx_Inv rxL S → bx_same rxL (bx_mdl ms) Sin S → rx_sat z.1 r → rx_facts z.2.1 r →
    bx_opcL o (rx_ev r a) (rx_ev r b) ∧ ∀ r_p : Nat → Int, rx_same z.1.length r r_p → r_p 0 = 0 → r_p z.1.length = bx_opvL o (rx_ev r a) (rx_ev r b) → (lo ≤ r_p z.1.length ∧ r_p z.1.length ≤ hi) ∧ inv i_p S r_p ∧ mea i_p S r_p < mea i S r
theorem rx_stepBL {M : rx_Mt} {tab : List bx_HE} {inv : Nat → bx_SP} {mea : Nat → (Nat → Int → Int) → (Nat → Int) → Nat} {Sin : Nat → Int → Int} {ms : List (Nat × Nat)} {i i_p o : Nat} {ins : Instr} {z : rx_Z} {os : List bx_HO} {es : List (rx_End × List (Nat × Int × Int))} {q_p : bx_HE} {a b : rx_E} {lo hi : Int} {t : List rx_V}
    (hF : rx_Fr rxG rxNW rxAO PX p s m args meth c M) (ho : (o = 20 ∧ ins = .lmul) ∨ (o = 21 ∧ ins = .ldiv)) (hdg : decode M.2.1 (rx_zpc z) = .ok (ins, 1)) (hne : bx_noE z.2.2.1 = true) (hst : rx_zst z = .inr (1, b) :: .inr (1, a) :: t)
    (htab : tab[i_p]? = some q_p) (hq' : rx_nxI (z.1 ++ [(lo, hi)]) z 1 (.inr (1, (z.1.length, 0)) :: t) = q_p.1) (hob : rx_obBL X Sin ms inv mea i i_p z o a b lo hi) :
    bx_Step p l e R s m args below meth c Q Dg rxL X vwCl A xa H0 ad M tab inv mea Sin ms i (z, os, es) := by
  intro S r H locs ls hinv hXS hsin hR K
  obtain ⟨Sq, ⟨ws0, tys0, hInv0, hrest0⟩, -, ⟨-, hch0⟩, -⟩ := id hR.2.2.2.1
  have eSq : Sq = S := bx_noE_eq hne (hch0 rfl)
  rw [eSq] at hInv0
  have hInv0 : bx_Inv rxL S := hInv0
  obtain ⟨o1, o2⟩ := hob S r hinv hXS hInv0 hsin hR.1 hR.2.1
  have hv := bx_opvL_ok o1
  have hb0 : o = 21 → ¬ Int64.ofInt (rx_ev r b) = 0 := fun ho4 hz => by
    subst ho4
    have h1 : 0 ≤ rx_ev r a ∧ 0 < rx_ev r b := o1.2.2
    have h2 := bx_toL (a := rx_ev r b) (by have := o1.2.1; omega)
    rw [hz] at h2
    have h3 : (0 : Int64).toInt = 0 := rfl
    omega
  obtain ⟨b1, b2, b3⟩ := o2 (rx_up r z.1.length (bx_mdL o (Int64.ofInt (rx_ev r a)) (Int64.ofInt (rx_ev r b))).toInt) rx_up_same ((rx_up_same 0 (rx_pos hR.1)).trans hR.1.1) (rx_up_self.trans hv)
  rw [rx_up_self] at b1
  have hsat := rx_sat_up (lo := lo) (hi := hi) hR.1 b1.1 b1.2
  have hsc := rx_stsc hR
  rw [hst] at hsc
  have ht2 : ∀ v ∈ t, rx_sc z.1.length z.2.2.1.length v := fun v hv => hsc v (List.mem_cons_of_mem _ (List.mem_cons_of_mem _ hv))
  have hlen : z.1.length ≤ (z.1 ++ [(lo, hi)]).length := by simp
  have hN := rx_R_nxI (d := 1) (st := .inr (1, (z.1.length, 0)) :: t) hR hlen rx_up_same hsat (fun v hv => by
    rcases List.mem_cons.mp hv with h | h
    · subst h
      show z.1.length < (z.1 ++ [(lo, hi)]).length
      simp
    · exact rx_sc.mono (ht2 v h) hlen trivial)
  rw [hq'] at hN
  have k := K i_p q_p S _ H locs ls htab b2 b3 hXS hsin hN
  rw [← hq'] at k
  have ev : rx_iv (rx_up r z.1.length (bx_mdL o (Int64.ofInt (rx_ev r a)) (Int64.ofInt (rx_ev r b))).toInt) ad xa (.inr (1, (z.1.length, 0))) = Value.long (bx_mdL o (Int64.ofInt (rx_ev r a)) (Int64.ofInt (rx_ev r b))) := by
    show Value.long (Int64.ofInt (rx_ev _ (z.1.length, 0))) = _
    unfold rx_ev
    rw [rx_up_self, Int.add_zero, Int64.ofInt_toInt]
  have et := rx_st_ext (ad := ad) (ad' := ad) (xa := xa) ht2 (rx_up_same (r := r) (n := z.1.length) (z := (bx_mdL o (Int64.ofInt (rx_ev r a)) (Int64.ofInt (rx_ev r b))).toInt)) rx_sameA.rf
  have row : W p l e R s m args below meth c H locs z.2.2.2.1 z.2.2.2.2.1 Q (F0 m (rx_zpc z + 1) ls (.long (bx_mdL o (Int64.ofInt (rx_ev r a)) (Int64.ofInt (rx_ev r b))) :: t.map (rx_iv r ad xa))) → W p l e R s m args below meth c H locs z.2.2.2.1 z.2.2.2.2.1 Q (F0 m (rx_zpc z) ls (.long (Int64.ofInt (rx_ev r b)) :: .long (Int64.ofInt (rx_ev r a)) :: t.map (rx_iv r ad xa))) := fun k => by
    rcases ho with ⟨h1, h2⟩ | ⟨h1, h2⟩
    · subst h1
      subst h2
      exact lv_lmul hF.1 hF.2.1 hdg k
    · have := hb0 h1
      subst h1
      subst h2
      exact lv_ldiv hF.1 hF.2.1 hdg this k
  rw [hst]
  refine row ?_
  rw [← ev, ← et]
  obtain ⟨zI, zF, zh, zc, zs, zp, zl, zt⟩ := z
  exact k
end RXOP
/-! DRIFT: the chances -/
def rzWy (s k : Int) : Nat → Int
  | 0 => 1
  | h + 1 => rzWy s k h * (if (h : Int) + 1 ≤ k then s else 100 - s)
def rzCh (n k : Int) : Nat → Int
  | 0 => 1
  | h + 1 => rzCh n k h * (n - k + ((h : Int) + 1)) / ((h : Int) + 1)
def rzDr (n k s : Int) : Int := if n < k then 0 else rzWy s k n.toNat * rzCh n k k.toNat
theorem rzWy_b {s k : Int} (h0 : 0 ≤ s) (h1 : s ≤ 300) (h : Nat) : (rzWy s k h).natAbs ≤ 300 ^ h := by
  induction h with
  | zero => exact Nat.le_refl _
  | succ h ih =>
    show (rzWy s k h * (if (h : Int) + 1 ≤ k then s else 100 - s)).natAbs ≤ 300 ^ h * 300
    rw [Int.natAbs_mul]
    refine Nat.mul_le_mul ih ?_
    split <;> omega
theorem rzCh_d : ∀ n : Fin 7, ∀ k : Fin 7, ∀ h : Fin 7, k.val ≤ n.val → h.val ≤ k.val → 0 ≤ rzCh (n.val : Int) (k.val : Int) h.val ∧ rzCh (n.val : Int) (k.val : Int) h.val ≤ 20 := by decide +kernel
theorem rzCh_b {n k : Int} (n0 : 0 ≤ n) (n1 : n ≤ 6) (k0 : 0 ≤ k) (kn : k ≤ n) {h : Nat} (hk : (h : Int) ≤ k) : 0 ≤ rzCh n k h ∧ rzCh n k h ≤ 20 := by
  have := rzCh_d ⟨n.toNat, by omega⟩ ⟨k.toNat, by omega⟩ ⟨h, by omega⟩ (show k.toNat ≤ n.toNat by omega) (show h ≤ k.toNat by omega)
  rw [show ((⟨n.toNat, by omega⟩ : Fin 7).val : Int) = n from Int.toNat_of_nonneg n0, show ((⟨k.toNat, by omega⟩ : Fin 7).val : Int) = k from Int.toNat_of_nonneg k0] at this
  exact this
theorem rz_mb {a b : Int} {A B : Nat} (h1 : a.natAbs ≤ A) (h2 : b.natAbs ≤ B) : -((A * B : Nat) : Int) ≤ a * b ∧ a * b ≤ ((A * B : Nat) : Int) := by
  have h := Nat.mul_le_mul h1 h2
  rw [← Int.natAbs_mul] at h
  omega
theorem rz_p3 {h : Nat} (h6 : h ≤ 6) : (300 : Nat) ^ h ≤ 729000000000000 := Nat.pow_le_pow_right (n := 300) (by decide) h6
theorem rz_p3' {h : Nat} (h6 : h ≤ 5) : (300 : Nat) ^ h ≤ 2430000000000 := Nat.pow_le_pow_right (n := 300) (by decide) h6
/-! CONTRACT BY HAND, by program (wip/sim/genhand.py): DeadUnderstudies.chances -/
def rxCCH : bx_Ct := ([(0, (0, 0, 6)), (0, (0, 0, 9)), (0, (0, 0, 300))], some (2, (0, (-9223372036854775808), 9223372036854775807)), [], 0, [])
def rxICH_0 (S0 : Nat → Int → Int) (ws : List Int) (S : Nat → Int → Int) (n k sl : Int) : Prop := S = S0 ∧ ws = [n, k, sl]
def rxmCH_0 (S0 : Nat → Int → Int) (ws : List Int) (S : Nat → Int → Int) (n k sl : Int) : Nat := 100000
def rxzCH_0 : rx_Z := ([(0, 0), (0, 0), (0, 0), (0, 0), (0, 0), (0, 0), (0, 0), (0, 0), (0, 6), (0, 9), (0, 300)], [], [], 0, 0, 0, [(0, .inr (0, (8, 0))), (1, .inr (0, (9, 0))), (2, .inr (0, (10, 0)))], [])
def rxICH_1 (S0 : Nat → Int → Int) (ws : List Int) (S : Nat → Int → Int) (n k sl v hd : Int) : Prop := ws = [n, k, sl] ∧ k ≤ n ∧ hd ≤ n + 1 ∧ ∃ h : Nat, hd = (h : Int) + 1 ∧ v = rzWy sl k h
def rxmCH_1 (S0 : Nat → Int → Int) (ws : List Int) (S : Nat → Int → Int) (n k sl v hd : Int) : Nat := 5000 + 10 * (20 - hd).toNat
def rxzCH_1 : rx_Z := ([(0, 0), (0, 0), (0, 0), (0, 0), (0, 0), (0, 0), (0, 0), (0, 0), (0, 6), (0, 6), (0, 300), ((-729000000000000), 729000000000000), (1, 7)], [], [], 0, 0, 12, [(0, .inr (0, (8, 0))), (1, .inr (0, (9, 0))), (2, .inr (0, (10, 0))), (3, .inr (1, (11, 0))), (5, .inr (0, (12, 0)))], [])
def rxICH_2 (S0 : Nat → Int → Int) (ws : List Int) (S : Nat → Int → Int) (n k sl hd v f : Int) : Prop := ws = [n, k, sl] ∧ k ≤ n ∧ hd ≤ n ∧ f = (if hd ≤ k then sl else 100 - sl) ∧ ∃ h : Nat, hd = (h : Int) + 1 ∧ v = rzWy sl k h
def rxmCH_2 (S0 : Nat → Int → Int) (ws : List Int) (S : Nat → Int → Int) (n k sl hd v f : Int) : Nat := 5000 + 10 * (20 - hd).toNat - 1
def rxzCH_2 : rx_Z := ([(0, 0), (0, 0), (0, 0), (0, 0), (0, 0), (0, 0), (0, 0), (0, 0), (0, 6), (0, 6), (0, 300), (1, 6), ((-729000000000000), 729000000000000), ((-200), 300)], [], [], 0, 0, 35, [(0, .inr (0, (8, 0))), (1, .inr (0, (9, 0))), (2, .inr (0, (10, 0))), (5, .inr (0, (11, 0)))], [.inr (1, (13, 0)), .inr (1, (12, 0))])
def rxICH_3 (S0 : Nat → Int → Int) (ws : List Int) (S : Nat → Int → Int) (n k sl hd v f y : Int) : Prop := ws = [n, k, sl] ∧ k ≤ n ∧ hd ≤ n ∧ ∃ h : Nat, hd = (h : Int) + 1 ∧ y = rzWy sl k (h + 1)
def rxmCH_3 (S0 : Nat → Int → Int) (ws : List Int) (S : Nat → Int → Int) (n k sl hd v f y : Int) : Nat := 5000 + 10 * (20 - hd).toNat - 2
def rxzCH_3 : rx_Z := ([(0, 0), (0, 0), (0, 0), (0, 0), (0, 0), (0, 0), (0, 0), (0, 0), (0, 6), (0, 6), (0, 300), (1, 6), ((-729000000000000), 729000000000000), ((-200), 300), ((-729000000000000), 729000000000000)], [], [], 0, 0, 36, [(0, .inr (0, (8, 0))), (1, .inr (0, (9, 0))), (2, .inr (0, (10, 0))), (5, .inr (0, (11, 0)))], [.inr (1, (14, 0))])
def rxICH_4 (S0 : Nat → Int → Int) (ws : List Int) (S : Nat → Int → Int) (n k v c hd : Int) : Prop := ∃ sl : Int, ws = [n, k, sl] ∧ k ≤ n ∧ 0 ≤ sl ∧ sl ≤ 300 ∧ v = rzWy sl k n.toNat ∧ ∃ h : Nat, hd = (h : Int) + 1 ∧ (h : Int) ≤ k ∧ c = rzCh n k h
def rxmCH_4 (S0 : Nat → Int → Int) (ws : List Int) (S : Nat → Int → Int) (n k v c hd : Int) : Nat := 2000 + 10 * (20 - hd).toNat
def rxzCH_4 : rx_Z := ([(0, 0), (0, 0), (0, 0), (0, 0), (0, 0), (0, 0), (0, 0), (0, 0), (0, 6), (0, 6), ((-729000000000000), 729000000000000), (0, 20), (1, 7)], [], [], 0, 0, 49, [(0, .inr (0, (8, 0))), (1, .inr (0, (9, 0))), (3, .inr (1, (10, 0))), (5, .inr (1, (11, 0))), (7, .inr (0, (12, 0)))], [])
def rxICH_5 (S0 : Nat → Int → Int) (ws : List Int) (S : Nat → Int → Int) (n k v hd c f : Int) : Prop := ∃ sl : Int, ws = [n, k, sl] ∧ k ≤ n ∧ 0 ≤ sl ∧ sl ≤ 300 ∧ v = rzWy sl k n.toNat ∧ hd ≤ k ∧ f = n - k + hd ∧ ∃ h : Nat, hd = (h : Int) + 1 ∧ c = rzCh n k h
def rxmCH_5 (S0 : Nat → Int → Int) (ws : List Int) (S : Nat → Int → Int) (n k v hd c f : Int) : Nat := 2000 + 10 * (20 - hd).toNat - 1
def rxzCH_5 : rx_Z := ([(0, 0), (0, 0), (0, 0), (0, 0), (0, 0), (0, 0), (0, 0), (0, 0), (0, 6), (0, 6), ((-729000000000000), 729000000000000), (1, 6), (0, 20), (1, 12)], [], [], 0, 0, 64, [(0, .inr (0, (8, 0))), (1, .inr (0, (9, 0))), (3, .inr (1, (10, 0))), (7, .inr (0, (11, 0)))], [.inr (1, (13, 0)), .inr (1, (12, 0))])
def rxICH_6 (S0 : Nat → Int → Int) (ws : List Int) (S : Nat → Int → Int) (n k v hd c f y : Int) : Prop := ∃ sl : Int, ws = [n, k, sl] ∧ k ≤ n ∧ 0 ≤ sl ∧ sl ≤ 300 ∧ v = rzWy sl k n.toNat ∧ hd ≤ k ∧ ∃ h : Nat, hd = (h : Int) + 1 ∧ y = rzCh n k h * (n - k + hd)
def rxmCH_6 (S0 : Nat → Int → Int) (ws : List Int) (S : Nat → Int → Int) (n k v hd c f y : Int) : Nat := 2000 + 10 * (20 - hd).toNat - 2
def rxzCH_6 : rx_Z := ([(0, 0), (0, 0), (0, 0), (0, 0), (0, 0), (0, 0), (0, 0), (0, 0), (0, 6), (0, 6), ((-729000000000000), 729000000000000), (1, 6), (0, 20), (1, 12), (0, 240)], [], [], 0, 0, 65, [(0, .inr (0, (8, 0))), (1, .inr (0, (9, 0))), (3, .inr (1, (10, 0))), (7, .inr (0, (11, 0)))], [.inr (1, (14, 0))])
def rxICH_7 (S0 : Nat → Int → Int) (ws : List Int) (S : Nat → Int → Int) (n k v hd y g : Int) : Prop := g = hd ∧ ∃ sl : Int, ws = [n, k, sl] ∧ k ≤ n ∧ 0 ≤ sl ∧ sl ≤ 300 ∧ v = rzWy sl k n.toNat ∧ hd ≤ k ∧ ∃ h : Nat, hd = (h : Int) + 1 ∧ y = rzCh n k h * (n - k + hd)
def rxmCH_7 (S0 : Nat → Int → Int) (ws : List Int) (S : Nat → Int → Int) (n k v hd y g : Int) : Nat := 2000 + 10 * (20 - hd).toNat - 3
def rxzCH_7 : rx_Z := ([(0, 0), (0, 0), (0, 0), (0, 0), (0, 0), (0, 0), (0, 0), (0, 0), (0, 6), (0, 6), ((-729000000000000), 729000000000000), (1, 6), (0, 240), (1, 6)], [], [], 0, 0, 68, [(0, .inr (0, (8, 0))), (1, .inr (0, (9, 0))), (3, .inr (1, (10, 0))), (7, .inr (0, (11, 0)))], [.inr (1, (13, 0)), .inr (1, (12, 0))])
def rxICH_8 (S0 : Nat → Int → Int) (ws : List Int) (S : Nat → Int → Int) (n k v hd y g z : Int) : Prop := ∃ sl : Int, ws = [n, k, sl] ∧ k ≤ n ∧ 0 ≤ sl ∧ sl ≤ 300 ∧ v = rzWy sl k n.toNat ∧ hd ≤ k ∧ ∃ h : Nat, hd = (h : Int) + 1 ∧ z = rzCh n k (h + 1)
def rxmCH_8 (S0 : Nat → Int → Int) (ws : List Int) (S : Nat → Int → Int) (n k v hd y g z : Int) : Nat := 2000 + 10 * (20 - hd).toNat - 4
def rxzCH_8 : rx_Z := ([(0, 0), (0, 0), (0, 0), (0, 0), (0, 0), (0, 0), (0, 0), (0, 0), (0, 6), (0, 6), ((-729000000000000), 729000000000000), (1, 6), (0, 240), (1, 6), (0, 20)], [], [], 0, 0, 69, [(0, .inr (0, (8, 0))), (1, .inr (0, (9, 0))), (3, .inr (1, (10, 0))), (7, .inr (0, (11, 0)))], [.inr (1, (14, 0))])
def rxICH_9 (S0 : Nat → Int → Int) (ws : List Int) (S : Nat → Int → Int) (n k v c : Int) : Prop := ∃ sl : Int, ws = [n, k, sl] ∧ k ≤ n ∧ 0 ≤ sl ∧ sl ≤ 300 ∧ v = rzWy sl k n.toNat ∧ c = rzCh n k k.toNat
def rxmCH_9 (S0 : Nat → Int → Int) (ws : List Int) (S : Nat → Int → Int) (n k v c : Int) : Nat := 1000
def rxzCH_9 : rx_Z := ([(0, 0), (0, 0), (0, 0), (0, 0), (0, 0), (0, 0), (0, 0), (0, 0), (0, 6), (0, 6), ((-729000000000000), 729000000000000), (0, 20)], [], [], 0, 0, 80, [(0, .inr (0, (8, 0))), (1, .inr (0, (9, 0)))], [.inr (1, (11, 0)), .inr (1, (10, 0))])
def rxICH_10 (S0 : Nat → Int → Int) (ws : List Int) (S : Nat → Int → Int) (n k v c y : Int) : Prop := ∃ sl : Int, ws = [n, k, sl] ∧ k ≤ n ∧ y = rzWy sl k n.toNat * rzCh n k k.toNat
def rxmCH_10 (S0 : Nat → Int → Int) (ws : List Int) (S : Nat → Int → Int) (n k v c y : Int) : Nat := 900
def rxzCH_10 : rx_Z := ([(0, 0), (0, 0), (0, 0), (0, 0), (0, 0), (0, 0), (0, 0), (0, 0), (0, 6), (0, 6), ((-729000000000000), 729000000000000), (0, 20), ((-14580000000000000), 14580000000000000)], [], [], 0, 0, 81, [(0, .inr (0, (8, 0))), (1, .inr (0, (9, 0)))], [.inr (1, (12, 0))])
def rxoCH_0_0 : bx_HO := (([(0, 0), (0, 0), (0, 0), (0, 0), (0, 0), (0, 0), (0, 0), (0, 0), (0, 6), (0, 6), (0, 300)], [(1, (9, 0), (8, 0))], [], 0, 0, 12, [(5, .inr (0, (0, 1))), (3, .inr (1, (0, 1))), (0, .inr (0, (8, 0))), (1, .inr (0, (9, 0))), (2, .inr (0, (10, 0)))], []), [], [], [(0, 0), (0, 0), (0, 0), (0, 0), (0, 0), (0, 0), (0, 0), (0, 0), (8, 0), (9, 0), (10, 0), (0, 1), (0, 1)], 1)
def rxeCH_0_0 : rx_End × List (Nat × Int × Int) := (([(0, 0), (0, 0), (0, 0), (0, 0), (0, 0), (0, 0), (0, 0), (0, 0), (0, 6), (1, 9), (0, 300)], [(0, (8, 0), (9, 0))], [], some (.inr (1, (0, 0)))), [])
def rxoCH_1_0 : bx_HO := (([(0, 0), (0, 0), (0, 0), (0, 0), (0, 0), (0, 0), (0, 0), (0, 0), (1, 6), (1, 6), (0, 300), ((-729000000000000), 729000000000000), (1, 6)], [(1, (12, 0), (9, 0)), (1, (12, 0), (8, 0))], [], 0, 0, 35, [(0, .inr (0, (8, 0))), (1, .inr (0, (9, 0))), (2, .inr (0, (10, 0))), (3, .inr (1, (11, 0))), (5, .inr (0, (12, 0)))], [.inr (1, (10, 0)), .inr (1, (11, 0))]), [], [], [(0, 0), (0, 0), (0, 0), (0, 0), (0, 0), (0, 0), (0, 0), (0, 0), (8, 0), (9, 0), (10, 0), (12, 0), (11, 0), (10, 0)], 2)
def rxoCH_1_1 : bx_HO := (([(0, 0), (0, 0), (0, 0), (0, 0), (0, 0), (0, 0), (0, 0), (0, 0), (1, 6), (0, 5), (0, 300), ((-729000000000000), 729000000000000), (1, 6), ((-200), 100)], [(604462909807314587353098000000, (0, 100), (13, 0)), (0, (9, 0), (12, 0)), (1, (12, 0), (8, 0))], [], 0, 0, 35, [(0, .inr (0, (8, 0))), (1, .inr (0, (9, 0))), (2, .inr (0, (10, 0))), (3, .inr (1, (11, 0))), (5, .inr (0, (12, 0)))], [.inr (1, (13, 0)), .inr (1, (11, 0))]), [], [], [(0, 0), (0, 0), (0, 0), (0, 0), (0, 0), (0, 0), (0, 0), (0, 0), (8, 0), (9, 0), (10, 0), (12, 0), (11, 0), (13, 0)], 2)
def rxoCH_1_2 : bx_HO := (([(0, 0), (0, 0), (0, 0), (0, 0), (0, 0), (0, 0), (0, 0), (0, 0), (0, 6), (0, 6), (0, 300), ((-729000000000000), 729000000000000), (1, 7)], [(0, (8, 0), (12, 0))], [], 0, 0, 49, [(7, .inr (0, (0, 1))), (5, .inr (1, (0, 1))), (0, .inr (0, (8, 0))), (1, .inr (0, (9, 0))), (2, .inr (0, (10, 0))), (3, .inr (1, (11, 0)))], []), [], [], [(0, 0), (0, 0), (0, 0), (0, 0), (0, 0), (0, 0), (0, 0), (0, 0), (8, 0), (9, 0), (11, 0), (0, 1), (0, 1)], 4)
def rxoCH_3_0 : bx_HO := (([(0, 0), (0, 0), (0, 0), (0, 0), (0, 0), (0, 0), (0, 0), (0, 0), (0, 6), (0, 6), (0, 300), (1, 6), ((-729000000000000), 729000000000000), ((-200), 300), ((-729000000000000), 729000000000000)], [], [], 0, 0, 12, [(5, .inr (0, (11, 1))), (3, .inr (1, (14, 0))), (0, .inr (0, (8, 0))), (1, .inr (0, (9, 0))), (2, .inr (0, (10, 0)))], []), [], [], [(0, 0), (0, 0), (0, 0), (0, 0), (0, 0), (0, 0), (0, 0), (0, 0), (8, 0), (9, 0), (10, 0), (14, 0), (11, 1)], 1)
def rxoCH_4_0 : bx_HO := (([(0, 0), (0, 0), (0, 0), (0, 0), (0, 0), (0, 0), (0, 0), (0, 0), (0, 6), (1, 6), ((-729000000000000), 729000000000000), (0, 20), (1, 6), ((-6), 5), ((-5), 11)], [(604462909807314587353100000000, (14, 0), (13, 0)), (604462909807314587353097000000, (8, 0), (13, 0)), (1, (12, 0), (9, 0))], [], 0, 0, 64, [(0, .inr (0, (8, 0))), (1, .inr (0, (9, 0))), (3, .inr (1, (10, 0))), (5, .inr (1, (11, 0))), (7, .inr (0, (12, 0)))], [.inr (1, (14, 0)), .inr (1, (11, 0))]), [(14, 1, 12)], [], [(0, 0), (0, 0), (0, 0), (0, 0), (0, 0), (0, 0), (0, 0), (0, 0), (8, 0), (9, 0), (10, 0), (12, 0), (11, 0), (14, 0)], 5)
def rxoCH_4_1 : bx_HO := (([(0, 0), (0, 0), (0, 0), (0, 0), (0, 0), (0, 0), (0, 0), (0, 0), (0, 6), (0, 6), ((-729000000000000), 729000000000000), (0, 20), (1, 7)], [(0, (9, 0), (12, 0))], [], 0, 0, 80, [(0, .inr (0, (8, 0))), (1, .inr (0, (9, 0))), (3, .inr (1, (10, 0))), (5, .inr (1, (11, 0))), (7, .inr (0, (12, 0)))], [.inr (1, (11, 0)), .inr (1, (10, 0))]), [], [], [(0, 0), (0, 0), (0, 0), (0, 0), (0, 0), (0, 0), (0, 0), (0, 0), (8, 0), (9, 0), (10, 0), (11, 0)], 9)
def rxoCH_6_0 : bx_HO := (([(0, 0), (0, 0), (0, 0), (0, 0), (0, 0), (0, 0), (0, 0), (0, 0), (0, 6), (0, 6), ((-729000000000000), 729000000000000), (1, 6), (0, 20), (1, 12), (0, 240)], [], [], 0, 0, 68, [(0, .inr (0, (8, 0))), (1, .inr (0, (9, 0))), (3, .inr (1, (10, 0))), (7, .inr (0, (11, 0)))], [.inr (1, (11, 0)), .inr (1, (14, 0))]), [], [], [(0, 0), (0, 0), (0, 0), (0, 0), (0, 0), (0, 0), (0, 0), (0, 0), (8, 0), (9, 0), (10, 0), (11, 0), (14, 0), (11, 0)], 7)
def rxoCH_8_0 : bx_HO := (([(0, 0), (0, 0), (0, 0), (0, 0), (0, 0), (0, 0), (0, 0), (0, 0), (0, 6), (0, 6), ((-729000000000000), 729000000000000), (1, 6), (0, 240), (1, 6), (0, 20)], [], [], 0, 0, 49, [(7, .inr (0, (11, 1))), (5, .inr (1, (14, 0))), (0, .inr (0, (8, 0))), (1, .inr (0, (9, 0))), (3, .inr (1, (10, 0)))], []), [], [], [(0, 0), (0, 0), (0, 0), (0, 0), (0, 0), (0, 0), (0, 0), (0, 0), (8, 0), (9, 0), (10, 0), (14, 0), (11, 1)], 4)
def rxeCH_10_0 : rx_End × List (Nat × Int × Int) := (([(0, 0), (0, 0), (0, 0), (0, 0), (0, 0), (0, 0), (0, 0), (0, 0), (0, 6), (0, 6), ((-729000000000000), 729000000000000), (0, 20), ((-14580000000000000), 14580000000000000)], [], [], some (.inr (1, (12, 0)))), [])
def rxYCH : List bx_HE := [(rxzCH_0, [rxoCH_0_0], [rxeCH_0_0]), (rxzCH_1, [rxoCH_1_0, rxoCH_1_1, rxoCH_1_2], []), (rxzCH_2, [], []), (rxzCH_3, [rxoCH_3_0], []), (rxzCH_4, [rxoCH_4_0, rxoCH_4_1], []), (rxzCH_5, [], []), (rxzCH_6, [rxoCH_6_0], []), (rxzCH_7, [], []), (rxzCH_8, [rxoCH_8_0], []), (rxzCH_9, [], []), (rxzCH_10, [], [rxeCH_10_0])]
def rxUCH (q : bx_HE) : Bool := Nat.beq (rx_zpc q.1) 35 || Nat.beq (rx_zpc q.1) 64 || Nat.beq (rx_zpc q.1) 68 || Nat.beq (rx_zpc q.1) 80
def rxYBCH : bx_B := (rxV, rxNP, rxDmf, bx_mdH rxCCH.2.2.1)
set_option maxRecDepth 100000 in
theorem rxYcCH : bx_chkH rxYBCH rxM12 rxCCH rxYCH (rxUCH, fun cut z => rx_ex2 (rxCT rxYBCH rxCnE) cut 30000 rxCCH.2.2.2.1 12 z) = true := by decide +kernel
def rxICH (S0 : Nat → Int → Int) (ws : List Int) (i : Nat) : bx_SP := fun S r => match i with | 0 => rxICH_0 S0 ws S (r 8) (r 9) (r 10) | 1 => rxICH_1 S0 ws S (r 8) (r 9) (r 10) (r 11) (r 12) | 2 => rxICH_2 S0 ws S (r 8) (r 9) (r 10) (r 11) (r 12) (r 13) | 3 => rxICH_3 S0 ws S (r 8) (r 9) (r 10) (r 11) (r 12) (r 13) (r 14) | 4 => rxICH_4 S0 ws S (r 8) (r 9) (r 10) (r 11) (r 12) | 5 => rxICH_5 S0 ws S (r 8) (r 9) (r 10) (r 11) (r 12) (r 13) | 6 => rxICH_6 S0 ws S (r 8) (r 9) (r 10) (r 11) (r 12) (r 13) (r 14) | 7 => rxICH_7 S0 ws S (r 8) (r 9) (r 10) (r 11) (r 12) (r 13) | 8 => rxICH_8 S0 ws S (r 8) (r 9) (r 10) (r 11) (r 12) (r 13) (r 14) | 9 => rxICH_9 S0 ws S (r 8) (r 9) (r 10) (r 11) | 10 => rxICH_10 S0 ws S (r 8) (r 9) (r 10) (r 11) (r 12) | _ => False
def rxmCH (S0 : Nat → Int → Int) (ws : List Int) (i : Nat) (S : Nat → Int → Int) (r : Nat → Int) : Nat := match i with | 0 => rxmCH_0 S0 ws S (r 8) (r 9) (r 10) | 1 => rxmCH_1 S0 ws S (r 8) (r 9) (r 10) (r 11) (r 12) | 2 => rxmCH_2 S0 ws S (r 8) (r 9) (r 10) (r 11) (r 12) (r 13) | 3 => rxmCH_3 S0 ws S (r 8) (r 9) (r 10) (r 11) (r 12) (r 13) (r 14) | 4 => rxmCH_4 S0 ws S (r 8) (r 9) (r 10) (r 11) (r 12) | 5 => rxmCH_5 S0 ws S (r 8) (r 9) (r 10) (r 11) (r 12) (r 13) | 6 => rxmCH_6 S0 ws S (r 8) (r 9) (r 10) (r 11) (r 12) (r 13) (r 14) | 7 => rxmCH_7 S0 ws S (r 8) (r 9) (r 10) (r 11) (r 12) (r 13) | 8 => rxmCH_8 S0 ws S (r 8) (r 9) (r 10) (r 11) (r 12) (r 13) (r 14) | 9 => rxmCH_9 S0 ws S (r 8) (r 9) (r 10) (r 11) | 10 => rxmCH_10 S0 ws S (r 8) (r 9) (r 10) (r 11) (r 12) | _ => 0
def rxPCH (S0 : Nat → Int → Int) (ws : List Int) : Prop := True
def rxPSCH (S0 : Nat → Int → Int) (ws : List Int) (S : Nat → Int → Int) (w : Option Int) : Prop := ∃ n k sl : Int, ws = [n, k, sl] ∧ w = some (rzDr n k sl)
theorem rxbCH_2 {S0 : Nat → Int → Int} {ws : List Int} {S : Nat → Int → Int} {n k sl hd v f : Int} (hP : rxPCH S0 ws) (hin : bx_same rxL (bx_mdl rxCCH.2.2.1) S0 S) (I0 : bx_Inv rxL S) (hinv : rxICH_2 S0 ws S n k sl hd v f) (l8 : 0 ≤ n) (u8 : n ≤ 6) (l9 : 0 ≤ k) (u9 : k ≤ 6) (l10 : 0 ≤ sl) (u10 : sl ≤ 300) (l11 : 1 ≤ hd) (u11 : hd ≤ 6) (l12 : (-729000000000000) ≤ v) (u12 : v ≤ 729000000000000) (l13 : (-200) ≤ f) (u13 : f ≤ 300) : bx_opcL 20 v f ∧ ∀ y : Int, y = bx_opvL 20 v f → ((-729000000000000) ≤ y ∧ y ≤ 729000000000000) ∧ rxICH_3 S0 ws S n k sl hd v f y ∧ rxmCH_3 S0 ws S n k sl hd v f y < rxmCH_2 S0 ws S n k sl hd v f := by
  obtain ⟨hw, hkn, hn, hf, h, e1, e2⟩ := hinv
  subst e1
  have b := rz_mb (A := 2430000000000) (B := 300) (a := v) (b := f) (by rw [e2]; exact Nat.le_trans (rzWy_b l10 u10 h) (rz_p3' (by omega))) (by omega)
  have ev : ∀ a b : Int, bx_opvL 20 a b = a * b := fun a b => if_pos rfl
  refine ⟨⟨⟨by omega, by omega⟩, ⟨by omega, by omega⟩, ?_⟩, fun y hy => ?_⟩
  · rw [if_pos rfl]; omega
  · rw [ev] at hy
    refine ⟨by omega, ⟨hw, hkn, hn, h, rfl, ?_⟩, by unfold rxmCH_2 rxmCH_3; omega⟩
    rw [hy, e2, hf]
    rfl
theorem rxsCH_2 {X : (Nat → Int → Int) → Prop} {S0 : Nat → Int → Int} {ws : List Int} (hP : rxPCH S0 ws) : rx_obBL X S0 rxCCH.2.2.1 (rxICH S0 ws) (rxmCH S0 ws) 2 3 rxzCH_2 20 (12, 0) (13, 0) (-729000000000000) 729000000000000 := by
  intro S r hinv hXS I0 hin hs_ hf_
  have b_ := bx_bds_sat hs_
  have f_ := bx_fcl_ok hs_.1 hf_
  obtain ⟨⟨l8, u8⟩, ⟨l9, u9⟩, ⟨l10, u10⟩, ⟨l11, u11⟩, ⟨l12, u12⟩, ⟨l13, u13⟩, -⟩ := b_
  have g := rxbCH_2 hP hin I0 hinv l8 u8 l9 u9 l10 u10 l11 u11 l12 u12 l13 u13
  rw [bx_x_ok hs_.1, bx_x_ok hs_.1]
  refine ⟨g.1, fun r_p hr h0_ hv => ?_⟩
  have g2 := g.2 (r_p 14) hv
  show _ ∧ rxICH_3 S0 ws S (r_p 8) (r_p 9) (r_p 10) (r_p 11) (r_p 12) (r_p 13) (r_p 14) ∧ rxmCH_3 S0 ws S (r_p 8) (r_p 9) (r_p 10) (r_p 11) (r_p 12) (r_p 13) (r_p 14) < _
  rw [hr 8 (by decide), hr 9 (by decide), hr 10 (by decide), hr 11 (by decide), hr 12 (by decide), hr 13 (by decide)]
  exact g2
theorem rxbCH_5 {S0 : Nat → Int → Int} {ws : List Int} {S : Nat → Int → Int} {n k v hd c f : Int} (hP : rxPCH S0 ws) (hin : bx_same rxL (bx_mdl rxCCH.2.2.1) S0 S) (I0 : bx_Inv rxL S) (hinv : rxICH_5 S0 ws S n k v hd c f) (l8 : 0 ≤ n) (u8 : n ≤ 6) (l9 : 0 ≤ k) (u9 : k ≤ 6) (l10 : (-729000000000000) ≤ v) (u10 : v ≤ 729000000000000) (l11 : 1 ≤ hd) (u11 : hd ≤ 6) (l12 : 0 ≤ c) (u12 : c ≤ 20) (l13 : 1 ≤ f) (u13 : f ≤ 12) : bx_opcL 20 c f ∧ ∀ y : Int, y = bx_opvL 20 c f → (0 ≤ y ∧ y ≤ 240) ∧ rxICH_6 S0 ws S n k v hd c f y ∧ rxmCH_6 S0 ws S n k v hd c f y < rxmCH_5 S0 ws S n k v hd c f := by
  obtain ⟨sl, hw, hkn, s0, s1, hv, hk, hf, h, e1, e2⟩ := hinv
  have b := rz_mb (A := 20) (B := 12) (a := c) (b := f) (by omega) (by omega)
  have b0 := Int.mul_nonneg l12 (show 0 ≤ f by omega)
  have ev : ∀ a b : Int, bx_opvL 20 a b = a * b := fun a b => if_pos rfl
  refine ⟨⟨⟨by omega, by omega⟩, ⟨by omega, by omega⟩, ?_⟩, fun y hy => ?_⟩
  · rw [if_pos rfl]; omega
  · rw [ev] at hy
    refine ⟨by omega, ⟨sl, hw, hkn, s0, s1, hv, hk, h, e1, ?_⟩, by unfold rxmCH_5 rxmCH_6; omega⟩
    rw [hy, e2, hf]
theorem rxsCH_5 {X : (Nat → Int → Int) → Prop} {S0 : Nat → Int → Int} {ws : List Int} (hP : rxPCH S0 ws) : rx_obBL X S0 rxCCH.2.2.1 (rxICH S0 ws) (rxmCH S0 ws) 5 6 rxzCH_5 20 (12, 0) (13, 0) 0 240 := by
  intro S r hinv hXS I0 hin hs_ hf_
  have b_ := bx_bds_sat hs_
  have f_ := bx_fcl_ok hs_.1 hf_
  obtain ⟨⟨l8, u8⟩, ⟨l9, u9⟩, ⟨l10, u10⟩, ⟨l11, u11⟩, ⟨l12, u12⟩, ⟨l13, u13⟩, -⟩ := b_
  have g := rxbCH_5 hP hin I0 hinv l8 u8 l9 u9 l10 u10 l11 u11 l12 u12 l13 u13
  rw [bx_x_ok hs_.1, bx_x_ok hs_.1]
  refine ⟨g.1, fun r_p hr h0_ hv => ?_⟩
  have g2 := g.2 (r_p 14) hv
  show _ ∧ rxICH_6 S0 ws S (r_p 8) (r_p 9) (r_p 10) (r_p 11) (r_p 12) (r_p 13) (r_p 14) ∧ rxmCH_6 S0 ws S (r_p 8) (r_p 9) (r_p 10) (r_p 11) (r_p 12) (r_p 13) (r_p 14) < _
  rw [hr 8 (by decide), hr 9 (by decide), hr 10 (by decide), hr 11 (by decide), hr 12 (by decide), hr 13 (by decide)]
  exact g2
theorem rxbCH_7 {S0 : Nat → Int → Int} {ws : List Int} {S : Nat → Int → Int} {n k v hd y g : Int} (hP : rxPCH S0 ws) (hin : bx_same rxL (bx_mdl rxCCH.2.2.1) S0 S) (I0 : bx_Inv rxL S) (hinv : rxICH_7 S0 ws S n k v hd y g) (l8 : 0 ≤ n) (u8 : n ≤ 6) (l9 : 0 ≤ k) (u9 : k ≤ 6) (l10 : (-729000000000000) ≤ v) (u10 : v ≤ 729000000000000) (l11 : 1 ≤ hd) (u11 : hd ≤ 6) (l12 : 0 ≤ y) (u12 : y ≤ 240) (l13 : 1 ≤ g) (u13 : g ≤ 6) : bx_opcL 21 y g ∧ ∀ z : Int, z = bx_opvL 21 y g → (0 ≤ z ∧ z ≤ 20) ∧ rxICH_8 S0 ws S n k v hd y g z ∧ rxmCH_8 S0 ws S n k v hd y g z < rxmCH_7 S0 ws S n k v hd y g := by
  obtain ⟨hg, sl, hw, hkn, s0, s1, hv, hk, h, e1, e2⟩ := hinv
  have ec : y / g = rzCh n k (h + 1) := by
    show y / g = rzCh n k h * (n - k + ((h : Int) + 1)) / ((h : Int) + 1)
    rw [e2, hg, e1]
  have b := rzCh_b (n := n) (k := k) (by omega) (by omega) (by omega) hkn (h := h + 1) (by omega)
  have ev : bx_opvL 21 y g = y / g := if_neg (by decide)
  refine ⟨⟨⟨by omega, by omega⟩, ⟨by omega, by omega⟩, ?_⟩, fun z hz => ?_⟩
  · rw [if_neg (by decide)]; omega
  · rw [ev, ec] at hz
    exact ⟨by omega, ⟨sl, hw, hkn, s0, s1, hv, hk, h, e1, hz⟩, by unfold rxmCH_7 rxmCH_8; omega⟩
theorem rxsCH_7 {X : (Nat → Int → Int) → Prop} {S0 : Nat → Int → Int} {ws : List Int} (hP : rxPCH S0 ws) : rx_obBL X S0 rxCCH.2.2.1 (rxICH S0 ws) (rxmCH S0 ws) 7 8 rxzCH_7 21 (12, 0) (13, 0) 0 20 := by
  intro S r hinv hXS I0 hin hs_ hf_
  have b_ := bx_bds_sat hs_
  have f_ := bx_fcl_ok hs_.1 hf_
  obtain ⟨⟨l8, u8⟩, ⟨l9, u9⟩, ⟨l10, u10⟩, ⟨l11, u11⟩, ⟨l12, u12⟩, ⟨l13, u13⟩, -⟩ := b_
  have g := rxbCH_7 hP hin I0 hinv l8 u8 l9 u9 l10 u10 l11 u11 l12 u12 l13 u13
  rw [bx_x_ok hs_.1, bx_x_ok hs_.1]
  refine ⟨g.1, fun r_p hr h0_ hv => ?_⟩
  have g2 := g.2 (r_p 14) hv
  show _ ∧ rxICH_8 S0 ws S (r_p 8) (r_p 9) (r_p 10) (r_p 11) (r_p 12) (r_p 13) (r_p 14) ∧ rxmCH_8 S0 ws S (r_p 8) (r_p 9) (r_p 10) (r_p 11) (r_p 12) (r_p 13) (r_p 14) < _
  rw [hr 8 (by decide), hr 9 (by decide), hr 10 (by decide), hr 11 (by decide), hr 12 (by decide), hr 13 (by decide)]
  exact g2
theorem rxbCH_9 {S0 : Nat → Int → Int} {ws : List Int} {S : Nat → Int → Int} {n k v c : Int} (hP : rxPCH S0 ws) (hin : bx_same rxL (bx_mdl rxCCH.2.2.1) S0 S) (I0 : bx_Inv rxL S) (hinv : rxICH_9 S0 ws S n k v c) (l8 : 0 ≤ n) (u8 : n ≤ 6) (l9 : 0 ≤ k) (u9 : k ≤ 6) (l10 : (-729000000000000) ≤ v) (u10 : v ≤ 729000000000000) (l11 : 0 ≤ c) (u11 : c ≤ 20) : bx_opcL 20 v c ∧ ∀ y : Int, y = bx_opvL 20 v c → ((-14580000000000000) ≤ y ∧ y ≤ 14580000000000000) ∧ rxICH_10 S0 ws S n k v c y ∧ rxmCH_10 S0 ws S n k v c y < rxmCH_9 S0 ws S n k v c := by
  obtain ⟨sl, hw, hkn, s0, s1, hv, hc⟩ := hinv
  have b := rz_mb (A := 729000000000000) (B := 20) (a := v) (b := c) (by omega) (by omega)
  have ev : ∀ a b : Int, bx_opvL 20 a b = a * b := fun a b => if_pos rfl
  refine ⟨⟨⟨by omega, by omega⟩, ⟨by omega, by omega⟩, ?_⟩, fun y hy => ?_⟩
  · rw [if_pos rfl]; omega
  · rw [ev] at hy
    refine ⟨by omega, ⟨sl, hw, hkn, ?_⟩, by unfold rxmCH_9 rxmCH_10; omega⟩
    rw [hy, hv, hc]
theorem rxsCH_9 {X : (Nat → Int → Int) → Prop} {S0 : Nat → Int → Int} {ws : List Int} (hP : rxPCH S0 ws) : rx_obBL X S0 rxCCH.2.2.1 (rxICH S0 ws) (rxmCH S0 ws) 9 10 rxzCH_9 20 (10, 0) (11, 0) (-14580000000000000) 14580000000000000 := by
  intro S r hinv hXS I0 hin hs_ hf_
  have b_ := bx_bds_sat hs_
  have f_ := bx_fcl_ok hs_.1 hf_
  obtain ⟨⟨l8, u8⟩, ⟨l9, u9⟩, ⟨l10, u10⟩, ⟨l11, u11⟩, -⟩ := b_
  have g := rxbCH_9 hP hin I0 hinv l8 u8 l9 u9 l10 u10 l11 u11
  rw [bx_x_ok hs_.1, bx_x_ok hs_.1]
  refine ⟨g.1, fun r_p hr h0_ hv => ?_⟩
  have g2 := g.2 (r_p 12) hv
  show _ ∧ rxICH_10 S0 ws S (r_p 8) (r_p 9) (r_p 10) (r_p 11) (r_p 12) ∧ rxmCH_10 S0 ws S (r_p 8) (r_p 9) (r_p 10) (r_p 11) (r_p 12) < _
  rw [hr 8 (by decide), hr 9 (by decide), hr 10 (by decide), hr 11 (by decide)]
  exact g2
theorem rxcCH_0_0 {S0 : Nat → Int → Int} {ws : List Int} {S : Nat → Int → Int} {n k sl : Int} (hP : rxPCH S0 ws) (hin : bx_same rxL (bx_mdl rxCCH.2.2.1) S0 S) (I0 : bx_Inv rxL S) (hinv : rxICH_0 S0 ws S n k sl) (l8 : 0 ≤ n) (u8 : n ≤ 6) (l9 : 0 ≤ k) (u9 : k ≤ 6) (l10 : 0 ≤ sl) (u10 : sl ≤ 300) (f0 : k ≤ n) : (True) ∧ (True) ∧ rxICH_1 S0 ws S n k sl 1 1 ∧ rxmCH_1 S0 ws S n k sl 1 1 < rxmCH_0 S0 ws S n k sl := by
  obtain ⟨-, hw⟩ := hinv
  exact ⟨trivial, trivial, ⟨hw, by omega, by omega, 0, by omega, rfl⟩, by unfold rxmCH_0 rxmCH_1; omega⟩
theorem rxgCH_0_0 {X : (Nat → Int → Int) → Prop} {S0 : Nat → Int → Int} {ws : List Int} (hP : rxPCH S0 ws) : bx_obC rxL X S0 rxCCH.2.2.1 (rxICH S0 ws) (rxmCH S0 ws) 0 rxzCH_0 rxoCH_0_0 := by
  intro S S_p r r_p hinv hX hin hsm_ hseg
  obtain ⟨I0, I1, h0_, hr_, b_, f_, d_⟩ := bx_cl (evs := []) (fvs := [(1, (9, 0), (8, 0), (0, 0))]) hseg (by decide +kernel) (by decide +kernel)
  have hinv : rxICH_0 S0 ws S (r 8) (r 9) (r 10) := hinv
  rw [← hr_ 8 (by decide), ← hr_ 9 (by decide), ← hr_ 10 (by decide)] at hinv
  obtain ⟨⟨l8, u8⟩, ⟨l9, u9⟩, ⟨l10, u10⟩, -⟩ := b_
  obtain ⟨f0, -⟩ := f_
  have w_ := d_
  subst w_
  have g := rxcCH_0_0 hP hin I0 hinv l8 u8 l9 u9 l10 u10 f0
  refine ⟨bx_narP_ok (l := []) g.1, bx_nfP_ok h0_ (fvs := []) (by decide +kernel) g.2.1, ?_, ?_⟩
  · show rxICH_1 S0 ws S_p (bx_val [(0, 0), (0, 0), (0, 0), (0, 0), (0, 0), (0, 0), (0, 0), (0, 0), (8, 0), (9, 0), (10, 0), (0, 1), (0, 1)] r_p 8) (bx_val [(0, 0), (0, 0), (0, 0), (0, 0), (0, 0), (0, 0), (0, 0), (0, 0), (8, 0), (9, 0), (10, 0), (0, 1), (0, 1)] r_p 9) (bx_val [(0, 0), (0, 0), (0, 0), (0, 0), (0, 0), (0, 0), (0, 0), (0, 0), (8, 0), (9, 0), (10, 0), (0, 1), (0, 1)] r_p 10) (bx_val [(0, 0), (0, 0), (0, 0), (0, 0), (0, 0), (0, 0), (0, 0), (0, 0), (8, 0), (9, 0), (10, 0), (0, 1), (0, 1)] r_p 11) (bx_val [(0, 0), (0, 0), (0, 0), (0, 0), (0, 0), (0, 0), (0, 0), (0, 0), (8, 0), (9, 0), (10, 0), (0, 1), (0, 1)] r_p 12)
    rw [bx_val_x (n := 8) (e := (8, 0)) h0_ rfl, bx_val_x (n := 9) (e := (9, 0)) h0_ rfl, bx_val_x (n := 10) (e := (10, 0)) h0_ rfl, bx_val_x (n := 11) (e := (0, 1)) h0_ rfl, bx_val_x (n := 12) (e := (0, 1)) h0_ rfl]
    exact g.2.2.1
  · show rxmCH_1 S0 ws S_p (bx_val [(0, 0), (0, 0), (0, 0), (0, 0), (0, 0), (0, 0), (0, 0), (0, 0), (8, 0), (9, 0), (10, 0), (0, 1), (0, 1)] r_p 8) (bx_val [(0, 0), (0, 0), (0, 0), (0, 0), (0, 0), (0, 0), (0, 0), (0, 0), (8, 0), (9, 0), (10, 0), (0, 1), (0, 1)] r_p 9) (bx_val [(0, 0), (0, 0), (0, 0), (0, 0), (0, 0), (0, 0), (0, 0), (0, 0), (8, 0), (9, 0), (10, 0), (0, 1), (0, 1)] r_p 10) (bx_val [(0, 0), (0, 0), (0, 0), (0, 0), (0, 0), (0, 0), (0, 0), (0, 0), (8, 0), (9, 0), (10, 0), (0, 1), (0, 1)] r_p 11) (bx_val [(0, 0), (0, 0), (0, 0), (0, 0), (0, 0), (0, 0), (0, 0), (0, 0), (8, 0), (9, 0), (10, 0), (0, 1), (0, 1)] r_p 12) < rxmCH_0 S0 ws S_p (r 8) (r 9) (r 10)
    rw [bx_val_x (n := 8) (e := (8, 0)) h0_ rfl, bx_val_x (n := 9) (e := (9, 0)) h0_ rfl, bx_val_x (n := 10) (e := (10, 0)) h0_ rfl, bx_val_x (n := 11) (e := (0, 1)) h0_ rfl, bx_val_x (n := 12) (e := (0, 1)) h0_ rfl, ← hr_ 8 (by decide), ← hr_ 9 (by decide), ← hr_ 10 (by decide)]
    exact g.2.2.2
theorem rxdCH_0_0 {S0 : Nat → Int → Int} {ws : List Int} {S : Nat → Int → Int} {n k sl : Int} (hP : rxPCH S0 ws) (hin : bx_same rxL (bx_mdl rxCCH.2.2.1) S0 S) (hin2 : bx_same rxL (bx_mdl rxCCH.2.2.1) S S) (I0 : bx_Inv rxL S) (I1 : bx_Inv rxL S) (hinv : rxICH_0 S0 ws S n k sl) (l8 : 0 ≤ n) (u8 : n ≤ 6) (l9 : 1 ≤ k) (u9 : k ≤ 9) (l10 : 0 ≤ sl) (u10 : sl ≤ 300) (f0 : n < k) : (True) ∧ rxPSCH S0 ws S (some 0) := by
  obtain ⟨-, hw⟩ := hinv
  exact ⟨trivial, n, k, sl, hw, congrArg some (by unfold rzDr; rw [if_pos (by omega)])⟩
theorem rxfCH_0_0 {X : (Nat → Int → Int) → Prop} {S0 : Nat → Int → Int} {ws : List Int} (hP : rxPCH S0 ws) : bx_obE rxL X S0 rxCCH.2.2.1 (rxICH S0 ws) (rxPSCH S0 ws) 0 rxzCH_0 rxeCH_0_0 := by
  intro S S_p r r_p hinv hX hin hsm_ hseg
  obtain ⟨I0, I1, h0_, hr_, b_, f_, d_⟩ := bx_cl (evs := []) (fvs := [(0, (8, 0), (9, 0), (0, 0))]) hseg (by decide +kernel) (by decide +kernel)
  have hinv : rxICH_0 S0 ws S (r 8) (r 9) (r 10) := hinv
  rw [← hr_ 8 (by decide), ← hr_ 9 (by decide), ← hr_ 10 (by decide)] at hinv
  obtain ⟨⟨l8, u8⟩, ⟨l9, u9⟩, ⟨l10, u10⟩, -⟩ := b_
  obtain ⟨f0, -⟩ := f_
  have w_ := d_
  subst w_
  have g := rxdCH_0_0 hP hin hsm_ I0 I1 hinv l8 u8 l9 u9 l10 u10 f0
  refine ⟨bx_narP_ok (l := []) g.1, ?_⟩
  show rxPSCH S0 ws S_p (some (bx_num r_p (.inr (1, (0, 0)))))
  rw [bx_xv_ok h0_]
  exact g.2
theorem rxcCH_1_0 {S0 : Nat → Int → Int} {ws : List Int} {S : Nat → Int → Int} {n k sl v hd : Int} (hP : rxPCH S0 ws) (hin : bx_same rxL (bx_mdl rxCCH.2.2.1) S0 S) (I0 : bx_Inv rxL S) (hinv : rxICH_1 S0 ws S n k sl v hd) (l8 : 1 ≤ n) (u8 : n ≤ 6) (l9 : 1 ≤ k) (u9 : k ≤ 6) (l10 : 0 ≤ sl) (u10 : sl ≤ 300) (l11 : (-729000000000000) ≤ v) (u11 : v ≤ 729000000000000) (l12 : 1 ≤ hd) (u12 : hd ≤ 6) (f0 : hd ≤ k) (f1 : hd ≤ n) : (True) ∧ (True) ∧ rxICH_2 S0 ws S n k sl hd v sl ∧ rxmCH_2 S0 ws S n k sl hd v sl < rxmCH_1 S0 ws S n k sl v hd := by
  obtain ⟨hw, hkn, hn, h, e1, e2⟩ := hinv
  exact ⟨trivial, trivial, ⟨hw, hkn, by omega, (if_pos (by omega)).symm, h, e1, e2⟩, by unfold rxmCH_1 rxmCH_2; omega⟩
theorem rxgCH_1_0 {X : (Nat → Int → Int) → Prop} {S0 : Nat → Int → Int} {ws : List Int} (hP : rxPCH S0 ws) : bx_obC rxL X S0 rxCCH.2.2.1 (rxICH S0 ws) (rxmCH S0 ws) 1 rxzCH_1 rxoCH_1_0 := by
  intro S S_p r r_p hinv hX hin hsm_ hseg
  obtain ⟨I0, I1, h0_, hr_, b_, f_, d_⟩ := bx_cl (evs := []) (fvs := [(1, (12, 0), (9, 0), (0, 0)), (1, (12, 0), (8, 0), (0, 0))]) hseg (by decide +kernel) (by decide +kernel)
  have hinv : rxICH_1 S0 ws S (r 8) (r 9) (r 10) (r 11) (r 12) := hinv
  rw [← hr_ 8 (by decide), ← hr_ 9 (by decide), ← hr_ 10 (by decide), ← hr_ 11 (by decide), ← hr_ 12 (by decide)] at hinv
  obtain ⟨⟨l8, u8⟩, ⟨l9, u9⟩, ⟨l10, u10⟩, ⟨l11, u11⟩, ⟨l12, u12⟩, -⟩ := b_
  obtain ⟨f0, f1, -⟩ := f_
  have w_ := d_
  subst w_
  have g := rxcCH_1_0 hP hin I0 hinv l8 u8 l9 u9 l10 u10 l11 u11 l12 u12 f0 f1
  refine ⟨bx_narP_ok (l := []) g.1, bx_nfP_ok h0_ (fvs := []) (by decide +kernel) g.2.1, ?_, ?_⟩
  · show rxICH_2 S0 ws S_p (bx_val [(0, 0), (0, 0), (0, 0), (0, 0), (0, 0), (0, 0), (0, 0), (0, 0), (8, 0), (9, 0), (10, 0), (12, 0), (11, 0), (10, 0)] r_p 8) (bx_val [(0, 0), (0, 0), (0, 0), (0, 0), (0, 0), (0, 0), (0, 0), (0, 0), (8, 0), (9, 0), (10, 0), (12, 0), (11, 0), (10, 0)] r_p 9) (bx_val [(0, 0), (0, 0), (0, 0), (0, 0), (0, 0), (0, 0), (0, 0), (0, 0), (8, 0), (9, 0), (10, 0), (12, 0), (11, 0), (10, 0)] r_p 10) (bx_val [(0, 0), (0, 0), (0, 0), (0, 0), (0, 0), (0, 0), (0, 0), (0, 0), (8, 0), (9, 0), (10, 0), (12, 0), (11, 0), (10, 0)] r_p 11) (bx_val [(0, 0), (0, 0), (0, 0), (0, 0), (0, 0), (0, 0), (0, 0), (0, 0), (8, 0), (9, 0), (10, 0), (12, 0), (11, 0), (10, 0)] r_p 12) (bx_val [(0, 0), (0, 0), (0, 0), (0, 0), (0, 0), (0, 0), (0, 0), (0, 0), (8, 0), (9, 0), (10, 0), (12, 0), (11, 0), (10, 0)] r_p 13)
    rw [bx_val_x (n := 8) (e := (8, 0)) h0_ rfl, bx_val_x (n := 9) (e := (9, 0)) h0_ rfl, bx_val_x (n := 10) (e := (10, 0)) h0_ rfl, bx_val_x (n := 11) (e := (12, 0)) h0_ rfl, bx_val_x (n := 12) (e := (11, 0)) h0_ rfl, bx_val_x (n := 13) (e := (10, 0)) h0_ rfl]
    exact g.2.2.1
  · show rxmCH_2 S0 ws S_p (bx_val [(0, 0), (0, 0), (0, 0), (0, 0), (0, 0), (0, 0), (0, 0), (0, 0), (8, 0), (9, 0), (10, 0), (12, 0), (11, 0), (10, 0)] r_p 8) (bx_val [(0, 0), (0, 0), (0, 0), (0, 0), (0, 0), (0, 0), (0, 0), (0, 0), (8, 0), (9, 0), (10, 0), (12, 0), (11, 0), (10, 0)] r_p 9) (bx_val [(0, 0), (0, 0), (0, 0), (0, 0), (0, 0), (0, 0), (0, 0), (0, 0), (8, 0), (9, 0), (10, 0), (12, 0), (11, 0), (10, 0)] r_p 10) (bx_val [(0, 0), (0, 0), (0, 0), (0, 0), (0, 0), (0, 0), (0, 0), (0, 0), (8, 0), (9, 0), (10, 0), (12, 0), (11, 0), (10, 0)] r_p 11) (bx_val [(0, 0), (0, 0), (0, 0), (0, 0), (0, 0), (0, 0), (0, 0), (0, 0), (8, 0), (9, 0), (10, 0), (12, 0), (11, 0), (10, 0)] r_p 12) (bx_val [(0, 0), (0, 0), (0, 0), (0, 0), (0, 0), (0, 0), (0, 0), (0, 0), (8, 0), (9, 0), (10, 0), (12, 0), (11, 0), (10, 0)] r_p 13) < rxmCH_1 S0 ws S_p (r 8) (r 9) (r 10) (r 11) (r 12)
    rw [bx_val_x (n := 8) (e := (8, 0)) h0_ rfl, bx_val_x (n := 9) (e := (9, 0)) h0_ rfl, bx_val_x (n := 10) (e := (10, 0)) h0_ rfl, bx_val_x (n := 11) (e := (12, 0)) h0_ rfl, bx_val_x (n := 12) (e := (11, 0)) h0_ rfl, bx_val_x (n := 13) (e := (10, 0)) h0_ rfl, ← hr_ 8 (by decide), ← hr_ 9 (by decide), ← hr_ 10 (by decide), ← hr_ 11 (by decide), ← hr_ 12 (by decide)]
    exact g.2.2.2
theorem rxcCH_1_1 {S0 : Nat → Int → Int} {ws : List Int} {S : Nat → Int → Int} {n k sl v hd x13 : Int} (hP : rxPCH S0 ws) (hin : bx_same rxL (bx_mdl rxCCH.2.2.1) S0 S) (I0 : bx_Inv rxL S) (hinv : rxICH_1 S0 ws S n k sl v hd) (l8 : 1 ≤ n) (u8 : n ≤ 6) (l9 : 0 ≤ k) (u9 : k ≤ 5) (l10 : 0 ≤ sl) (u10 : sl ≤ 300) (l11 : (-729000000000000) ≤ v) (u11 : v ≤ 729000000000000) (l12 : 1 ≤ hd) (u12 : hd ≤ 6) (l13 : (-200) ≤ x13) (u13 : x13 ≤ 100) (f0 : 100 = x13 + sl) (f1 : k < hd) (f2 : hd ≤ n) : (True) ∧ (True) ∧ rxICH_2 S0 ws S n k sl hd v x13 ∧ rxmCH_2 S0 ws S n k sl hd v x13 < rxmCH_1 S0 ws S n k sl v hd := by
  obtain ⟨hw, hkn, hn, h, e1, e2⟩ := hinv
  exact ⟨trivial, trivial, ⟨hw, hkn, by omega, by rw [if_neg (by omega)]; omega, h, e1, e2⟩, by unfold rxmCH_1 rxmCH_2; omega⟩
theorem rxgCH_1_1 {X : (Nat → Int → Int) → Prop} {S0 : Nat → Int → Int} {ws : List Int} (hP : rxPCH S0 ws) : bx_obC rxL X S0 rxCCH.2.2.1 (rxICH S0 ws) (rxmCH S0 ws) 1 rxzCH_1 rxoCH_1_1 := by
  intro S S_p r r_p hinv hX hin hsm_ hseg
  obtain ⟨I0, I1, h0_, hr_, b_, f_, d_⟩ := bx_cl (evs := []) (fvs := [(5, (0, 100), (13, 0), (10, 0)), (0, (9, 0), (12, 0), (0, 0)), (1, (12, 0), (8, 0), (0, 0))]) hseg (by decide +kernel) (by decide +kernel)
  have hinv : rxICH_1 S0 ws S (r 8) (r 9) (r 10) (r 11) (r 12) := hinv
  rw [← hr_ 8 (by decide), ← hr_ 9 (by decide), ← hr_ 10 (by decide), ← hr_ 11 (by decide), ← hr_ 12 (by decide)] at hinv
  obtain ⟨⟨l8, u8⟩, ⟨l9, u9⟩, ⟨l10, u10⟩, ⟨l11, u11⟩, ⟨l12, u12⟩, ⟨l13, u13⟩, -⟩ := b_
  obtain ⟨f0, f1, f2, -⟩ := f_
  have w_ := d_
  subst w_
  have g := rxcCH_1_1 hP hin I0 hinv l8 u8 l9 u9 l10 u10 l11 u11 l12 u12 l13 u13 f0 f1 f2
  refine ⟨bx_narP_ok (l := []) g.1, bx_nfP_ok h0_ (fvs := []) (by decide +kernel) g.2.1, ?_, ?_⟩
  · show rxICH_2 S0 ws S_p (bx_val [(0, 0), (0, 0), (0, 0), (0, 0), (0, 0), (0, 0), (0, 0), (0, 0), (8, 0), (9, 0), (10, 0), (12, 0), (11, 0), (13, 0)] r_p 8) (bx_val [(0, 0), (0, 0), (0, 0), (0, 0), (0, 0), (0, 0), (0, 0), (0, 0), (8, 0), (9, 0), (10, 0), (12, 0), (11, 0), (13, 0)] r_p 9) (bx_val [(0, 0), (0, 0), (0, 0), (0, 0), (0, 0), (0, 0), (0, 0), (0, 0), (8, 0), (9, 0), (10, 0), (12, 0), (11, 0), (13, 0)] r_p 10) (bx_val [(0, 0), (0, 0), (0, 0), (0, 0), (0, 0), (0, 0), (0, 0), (0, 0), (8, 0), (9, 0), (10, 0), (12, 0), (11, 0), (13, 0)] r_p 11) (bx_val [(0, 0), (0, 0), (0, 0), (0, 0), (0, 0), (0, 0), (0, 0), (0, 0), (8, 0), (9, 0), (10, 0), (12, 0), (11, 0), (13, 0)] r_p 12) (bx_val [(0, 0), (0, 0), (0, 0), (0, 0), (0, 0), (0, 0), (0, 0), (0, 0), (8, 0), (9, 0), (10, 0), (12, 0), (11, 0), (13, 0)] r_p 13)
    rw [bx_val_x (n := 8) (e := (8, 0)) h0_ rfl, bx_val_x (n := 9) (e := (9, 0)) h0_ rfl, bx_val_x (n := 10) (e := (10, 0)) h0_ rfl, bx_val_x (n := 11) (e := (12, 0)) h0_ rfl, bx_val_x (n := 12) (e := (11, 0)) h0_ rfl, bx_val_x (n := 13) (e := (13, 0)) h0_ rfl]
    exact g.2.2.1
  · show rxmCH_2 S0 ws S_p (bx_val [(0, 0), (0, 0), (0, 0), (0, 0), (0, 0), (0, 0), (0, 0), (0, 0), (8, 0), (9, 0), (10, 0), (12, 0), (11, 0), (13, 0)] r_p 8) (bx_val [(0, 0), (0, 0), (0, 0), (0, 0), (0, 0), (0, 0), (0, 0), (0, 0), (8, 0), (9, 0), (10, 0), (12, 0), (11, 0), (13, 0)] r_p 9) (bx_val [(0, 0), (0, 0), (0, 0), (0, 0), (0, 0), (0, 0), (0, 0), (0, 0), (8, 0), (9, 0), (10, 0), (12, 0), (11, 0), (13, 0)] r_p 10) (bx_val [(0, 0), (0, 0), (0, 0), (0, 0), (0, 0), (0, 0), (0, 0), (0, 0), (8, 0), (9, 0), (10, 0), (12, 0), (11, 0), (13, 0)] r_p 11) (bx_val [(0, 0), (0, 0), (0, 0), (0, 0), (0, 0), (0, 0), (0, 0), (0, 0), (8, 0), (9, 0), (10, 0), (12, 0), (11, 0), (13, 0)] r_p 12) (bx_val [(0, 0), (0, 0), (0, 0), (0, 0), (0, 0), (0, 0), (0, 0), (0, 0), (8, 0), (9, 0), (10, 0), (12, 0), (11, 0), (13, 0)] r_p 13) < rxmCH_1 S0 ws S_p (r 8) (r 9) (r 10) (r 11) (r 12)
    rw [bx_val_x (n := 8) (e := (8, 0)) h0_ rfl, bx_val_x (n := 9) (e := (9, 0)) h0_ rfl, bx_val_x (n := 10) (e := (10, 0)) h0_ rfl, bx_val_x (n := 11) (e := (12, 0)) h0_ rfl, bx_val_x (n := 12) (e := (11, 0)) h0_ rfl, bx_val_x (n := 13) (e := (13, 0)) h0_ rfl, ← hr_ 8 (by decide), ← hr_ 9 (by decide), ← hr_ 10 (by decide), ← hr_ 11 (by decide), ← hr_ 12 (by decide)]
    exact g.2.2.2
theorem rxcCH_1_2 {S0 : Nat → Int → Int} {ws : List Int} {S : Nat → Int → Int} {n k sl v hd : Int} (hP : rxPCH S0 ws) (hin : bx_same rxL (bx_mdl rxCCH.2.2.1) S0 S) (I0 : bx_Inv rxL S) (hinv : rxICH_1 S0 ws S n k sl v hd) (l8 : 0 ≤ n) (u8 : n ≤ 6) (l9 : 0 ≤ k) (u9 : k ≤ 6) (l10 : 0 ≤ sl) (u10 : sl ≤ 300) (l11 : (-729000000000000) ≤ v) (u11 : v ≤ 729000000000000) (l12 : 1 ≤ hd) (u12 : hd ≤ 7) (f0 : n < hd) : (True) ∧ (True) ∧ rxICH_4 S0 ws S n k v 1 1 ∧ rxmCH_4 S0 ws S n k v 1 1 < rxmCH_1 S0 ws S n k sl v hd := by
  obtain ⟨hw, hkn, hn, h, e1, e2⟩ := hinv
  exact ⟨trivial, trivial, ⟨sl, hw, hkn, by omega, by omega, by rw [show n.toNat = h by omega]; exact e2, 0, by omega, by omega, rfl⟩, by unfold rxmCH_1 rxmCH_4; omega⟩
theorem rxgCH_1_2 {X : (Nat → Int → Int) → Prop} {S0 : Nat → Int → Int} {ws : List Int} (hP : rxPCH S0 ws) : bx_obC rxL X S0 rxCCH.2.2.1 (rxICH S0 ws) (rxmCH S0 ws) 1 rxzCH_1 rxoCH_1_2 := by
  intro S S_p r r_p hinv hX hin hsm_ hseg
  obtain ⟨I0, I1, h0_, hr_, b_, f_, d_⟩ := bx_cl (evs := []) (fvs := [(0, (8, 0), (12, 0), (0, 0))]) hseg (by decide +kernel) (by decide +kernel)
  have hinv : rxICH_1 S0 ws S (r 8) (r 9) (r 10) (r 11) (r 12) := hinv
  rw [← hr_ 8 (by decide), ← hr_ 9 (by decide), ← hr_ 10 (by decide), ← hr_ 11 (by decide), ← hr_ 12 (by decide)] at hinv
  obtain ⟨⟨l8, u8⟩, ⟨l9, u9⟩, ⟨l10, u10⟩, ⟨l11, u11⟩, ⟨l12, u12⟩, -⟩ := b_
  obtain ⟨f0, -⟩ := f_
  have w_ := d_
  subst w_
  have g := rxcCH_1_2 hP hin I0 hinv l8 u8 l9 u9 l10 u10 l11 u11 l12 u12 f0
  refine ⟨bx_narP_ok (l := []) g.1, bx_nfP_ok h0_ (fvs := []) (by decide +kernel) g.2.1, ?_, ?_⟩
  · show rxICH_4 S0 ws S_p (bx_val [(0, 0), (0, 0), (0, 0), (0, 0), (0, 0), (0, 0), (0, 0), (0, 0), (8, 0), (9, 0), (11, 0), (0, 1), (0, 1)] r_p 8) (bx_val [(0, 0), (0, 0), (0, 0), (0, 0), (0, 0), (0, 0), (0, 0), (0, 0), (8, 0), (9, 0), (11, 0), (0, 1), (0, 1)] r_p 9) (bx_val [(0, 0), (0, 0), (0, 0), (0, 0), (0, 0), (0, 0), (0, 0), (0, 0), (8, 0), (9, 0), (11, 0), (0, 1), (0, 1)] r_p 10) (bx_val [(0, 0), (0, 0), (0, 0), (0, 0), (0, 0), (0, 0), (0, 0), (0, 0), (8, 0), (9, 0), (11, 0), (0, 1), (0, 1)] r_p 11) (bx_val [(0, 0), (0, 0), (0, 0), (0, 0), (0, 0), (0, 0), (0, 0), (0, 0), (8, 0), (9, 0), (11, 0), (0, 1), (0, 1)] r_p 12)
    rw [bx_val_x (n := 8) (e := (8, 0)) h0_ rfl, bx_val_x (n := 9) (e := (9, 0)) h0_ rfl, bx_val_x (n := 10) (e := (11, 0)) h0_ rfl, bx_val_x (n := 11) (e := (0, 1)) h0_ rfl, bx_val_x (n := 12) (e := (0, 1)) h0_ rfl]
    exact g.2.2.1
  · show rxmCH_4 S0 ws S_p (bx_val [(0, 0), (0, 0), (0, 0), (0, 0), (0, 0), (0, 0), (0, 0), (0, 0), (8, 0), (9, 0), (11, 0), (0, 1), (0, 1)] r_p 8) (bx_val [(0, 0), (0, 0), (0, 0), (0, 0), (0, 0), (0, 0), (0, 0), (0, 0), (8, 0), (9, 0), (11, 0), (0, 1), (0, 1)] r_p 9) (bx_val [(0, 0), (0, 0), (0, 0), (0, 0), (0, 0), (0, 0), (0, 0), (0, 0), (8, 0), (9, 0), (11, 0), (0, 1), (0, 1)] r_p 10) (bx_val [(0, 0), (0, 0), (0, 0), (0, 0), (0, 0), (0, 0), (0, 0), (0, 0), (8, 0), (9, 0), (11, 0), (0, 1), (0, 1)] r_p 11) (bx_val [(0, 0), (0, 0), (0, 0), (0, 0), (0, 0), (0, 0), (0, 0), (0, 0), (8, 0), (9, 0), (11, 0), (0, 1), (0, 1)] r_p 12) < rxmCH_1 S0 ws S_p (r 8) (r 9) (r 10) (r 11) (r 12)
    rw [bx_val_x (n := 8) (e := (8, 0)) h0_ rfl, bx_val_x (n := 9) (e := (9, 0)) h0_ rfl, bx_val_x (n := 10) (e := (11, 0)) h0_ rfl, bx_val_x (n := 11) (e := (0, 1)) h0_ rfl, bx_val_x (n := 12) (e := (0, 1)) h0_ rfl, ← hr_ 8 (by decide), ← hr_ 9 (by decide), ← hr_ 10 (by decide), ← hr_ 11 (by decide), ← hr_ 12 (by decide)]
    exact g.2.2.2
theorem rxcCH_3_0 {S0 : Nat → Int → Int} {ws : List Int} {S : Nat → Int → Int} {n k sl hd v f y : Int} (hP : rxPCH S0 ws) (hin : bx_same rxL (bx_mdl rxCCH.2.2.1) S0 S) (I0 : bx_Inv rxL S) (hinv : rxICH_3 S0 ws S n k sl hd v f y) (l8 : 0 ≤ n) (u8 : n ≤ 6) (l9 : 0 ≤ k) (u9 : k ≤ 6) (l10 : 0 ≤ sl) (u10 : sl ≤ 300) (l11 : 1 ≤ hd) (u11 : hd ≤ 6) (l12 : (-729000000000000) ≤ v) (u12 : v ≤ 729000000000000) (l13 : (-200) ≤ f) (u13 : f ≤ 300) (l14 : (-729000000000000) ≤ y) (u14 : y ≤ 729000000000000) : (True) ∧ (True) ∧ rxICH_1 S0 ws S n k sl y (hd + 1) ∧ rxmCH_1 S0 ws S n k sl y (hd + 1) < rxmCH_3 S0 ws S n k sl hd v f y := by
  obtain ⟨hw, hkn, hn, h, e1, e2⟩ := hinv
  exact ⟨trivial, trivial, ⟨hw, hkn, by omega, h + 1, by omega, e2⟩, by unfold rxmCH_3 rxmCH_1; omega⟩
theorem rxgCH_3_0 {X : (Nat → Int → Int) → Prop} {S0 : Nat → Int → Int} {ws : List Int} (hP : rxPCH S0 ws) : bx_obC rxL X S0 rxCCH.2.2.1 (rxICH S0 ws) (rxmCH S0 ws) 3 rxzCH_3 rxoCH_3_0 := by
  intro S S_p r r_p hinv hX hin hsm_ hseg
  obtain ⟨I0, I1, h0_, hr_, b_, f_, d_⟩ := bx_cl (evs := []) (fvs := []) hseg (by decide +kernel) (by decide +kernel)
  have hinv : rxICH_3 S0 ws S (r 8) (r 9) (r 10) (r 11) (r 12) (r 13) (r 14) := hinv
  rw [← hr_ 8 (by decide), ← hr_ 9 (by decide), ← hr_ 10 (by decide), ← hr_ 11 (by decide), ← hr_ 12 (by decide), ← hr_ 13 (by decide), ← hr_ 14 (by decide)] at hinv
  obtain ⟨⟨l8, u8⟩, ⟨l9, u9⟩, ⟨l10, u10⟩, ⟨l11, u11⟩, ⟨l12, u12⟩, ⟨l13, u13⟩, ⟨l14, u14⟩, -⟩ := b_
  have w_ := d_
  subst w_
  have g := rxcCH_3_0 hP hin I0 hinv l8 u8 l9 u9 l10 u10 l11 u11 l12 u12 l13 u13 l14 u14
  refine ⟨bx_narP_ok (l := []) g.1, bx_nfP_ok h0_ (fvs := []) (by decide +kernel) g.2.1, ?_, ?_⟩
  · show rxICH_1 S0 ws S_p (bx_val [(0, 0), (0, 0), (0, 0), (0, 0), (0, 0), (0, 0), (0, 0), (0, 0), (8, 0), (9, 0), (10, 0), (14, 0), (11, 1)] r_p 8) (bx_val [(0, 0), (0, 0), (0, 0), (0, 0), (0, 0), (0, 0), (0, 0), (0, 0), (8, 0), (9, 0), (10, 0), (14, 0), (11, 1)] r_p 9) (bx_val [(0, 0), (0, 0), (0, 0), (0, 0), (0, 0), (0, 0), (0, 0), (0, 0), (8, 0), (9, 0), (10, 0), (14, 0), (11, 1)] r_p 10) (bx_val [(0, 0), (0, 0), (0, 0), (0, 0), (0, 0), (0, 0), (0, 0), (0, 0), (8, 0), (9, 0), (10, 0), (14, 0), (11, 1)] r_p 11) (bx_val [(0, 0), (0, 0), (0, 0), (0, 0), (0, 0), (0, 0), (0, 0), (0, 0), (8, 0), (9, 0), (10, 0), (14, 0), (11, 1)] r_p 12)
    rw [bx_val_x (n := 8) (e := (8, 0)) h0_ rfl, bx_val_x (n := 9) (e := (9, 0)) h0_ rfl, bx_val_x (n := 10) (e := (10, 0)) h0_ rfl, bx_val_x (n := 11) (e := (14, 0)) h0_ rfl, bx_val_x (n := 12) (e := (11, 1)) h0_ rfl]
    exact g.2.2.1
  · show rxmCH_1 S0 ws S_p (bx_val [(0, 0), (0, 0), (0, 0), (0, 0), (0, 0), (0, 0), (0, 0), (0, 0), (8, 0), (9, 0), (10, 0), (14, 0), (11, 1)] r_p 8) (bx_val [(0, 0), (0, 0), (0, 0), (0, 0), (0, 0), (0, 0), (0, 0), (0, 0), (8, 0), (9, 0), (10, 0), (14, 0), (11, 1)] r_p 9) (bx_val [(0, 0), (0, 0), (0, 0), (0, 0), (0, 0), (0, 0), (0, 0), (0, 0), (8, 0), (9, 0), (10, 0), (14, 0), (11, 1)] r_p 10) (bx_val [(0, 0), (0, 0), (0, 0), (0, 0), (0, 0), (0, 0), (0, 0), (0, 0), (8, 0), (9, 0), (10, 0), (14, 0), (11, 1)] r_p 11) (bx_val [(0, 0), (0, 0), (0, 0), (0, 0), (0, 0), (0, 0), (0, 0), (0, 0), (8, 0), (9, 0), (10, 0), (14, 0), (11, 1)] r_p 12) < rxmCH_3 S0 ws S_p (r 8) (r 9) (r 10) (r 11) (r 12) (r 13) (r 14)
    rw [bx_val_x (n := 8) (e := (8, 0)) h0_ rfl, bx_val_x (n := 9) (e := (9, 0)) h0_ rfl, bx_val_x (n := 10) (e := (10, 0)) h0_ rfl, bx_val_x (n := 11) (e := (14, 0)) h0_ rfl, bx_val_x (n := 12) (e := (11, 1)) h0_ rfl, ← hr_ 8 (by decide), ← hr_ 9 (by decide), ← hr_ 10 (by decide), ← hr_ 11 (by decide), ← hr_ 12 (by decide), ← hr_ 13 (by decide), ← hr_ 14 (by decide)]
    exact g.2.2.2
theorem rxcCH_4_0 {S0 : Nat → Int → Int} {ws : List Int} {S : Nat → Int → Int} {n k v c hd x13 x14 : Int} (hP : rxPCH S0 ws) (hin : bx_same rxL (bx_mdl rxCCH.2.2.1) S0 S) (I0 : bx_Inv rxL S) (hinv : rxICH_4 S0 ws S n k v c hd) (l8 : 0 ≤ n) (u8 : n ≤ 6) (l9 : 1 ≤ k) (u9 : k ≤ 6) (l10 : (-729000000000000) ≤ v) (u10 : v ≤ 729000000000000) (l11 : 0 ≤ c) (u11 : c ≤ 20) (l12 : 1 ≤ hd) (u12 : hd ≤ 6) (l13 : (-6) ≤ x13) (u13 : x13 ≤ 5) (l14 : (-5) ≤ x14) (u14 : x14 ≤ 11) (f0 : x14 = x13 + hd) (f1 : n = x13 + k) (f2 : hd ≤ k) : ((1 ≤ x14 ∧ x14 ≤ 12) ∧ True) ∧ (True) ∧ rxICH_5 S0 ws S n k v hd c x14 ∧ rxmCH_5 S0 ws S n k v hd c x14 < rxmCH_4 S0 ws S n k v c hd := by
  obtain ⟨sl, hw, hkn, s0, s1, hv, h, e1, e2, e3⟩ := hinv
  exact ⟨⟨⟨by omega, by omega⟩, trivial⟩, trivial, ⟨sl, hw, hkn, s0, s1, hv, by omega, by omega, h, e1, e3⟩, by unfold rxmCH_4 rxmCH_5; omega⟩
theorem rxgCH_4_0 {X : (Nat → Int → Int) → Prop} {S0 : Nat → Int → Int} {ws : List Int} (hP : rxPCH S0 ws) : bx_obC rxL X S0 rxCCH.2.2.1 (rxICH S0 ws) (rxmCH S0 ws) 4 rxzCH_4 rxoCH_4_0 := by
  intro S S_p r r_p hinv hX hin hsm_ hseg
  obtain ⟨I0, I1, h0_, hr_, b_, f_, d_⟩ := bx_cl (evs := []) (fvs := [(5, (14, 0), (13, 0), (12, 0)), (5, (8, 0), (13, 0), (9, 0)), (1, (12, 0), (9, 0), (0, 0))]) hseg (by decide +kernel) (by decide +kernel)
  have hinv : rxICH_4 S0 ws S (r 8) (r 9) (r 10) (r 11) (r 12) := hinv
  rw [← hr_ 8 (by decide), ← hr_ 9 (by decide), ← hr_ 10 (by decide), ← hr_ 11 (by decide), ← hr_ 12 (by decide)] at hinv
  obtain ⟨⟨l8, u8⟩, ⟨l9, u9⟩, ⟨l10, u10⟩, ⟨l11, u11⟩, ⟨l12, u12⟩, ⟨l13, u13⟩, ⟨l14, u14⟩, -⟩ := b_
  obtain ⟨f0, f1, f2, -⟩ := f_
  have w_ := d_
  subst w_
  have g := rxcCH_4_0 hP hin I0 hinv l8 u8 l9 u9 l10 u10 l11 u11 l12 u12 l13 u13 l14 u14 f0 f1 f2
  refine ⟨bx_narP_ok (l := [(14, 1, 12)]) g.1, bx_nfP_ok h0_ (fvs := []) (by decide +kernel) g.2.1, ?_, ?_⟩
  · show rxICH_5 S0 ws S_p (bx_val [(0, 0), (0, 0), (0, 0), (0, 0), (0, 0), (0, 0), (0, 0), (0, 0), (8, 0), (9, 0), (10, 0), (12, 0), (11, 0), (14, 0)] r_p 8) (bx_val [(0, 0), (0, 0), (0, 0), (0, 0), (0, 0), (0, 0), (0, 0), (0, 0), (8, 0), (9, 0), (10, 0), (12, 0), (11, 0), (14, 0)] r_p 9) (bx_val [(0, 0), (0, 0), (0, 0), (0, 0), (0, 0), (0, 0), (0, 0), (0, 0), (8, 0), (9, 0), (10, 0), (12, 0), (11, 0), (14, 0)] r_p 10) (bx_val [(0, 0), (0, 0), (0, 0), (0, 0), (0, 0), (0, 0), (0, 0), (0, 0), (8, 0), (9, 0), (10, 0), (12, 0), (11, 0), (14, 0)] r_p 11) (bx_val [(0, 0), (0, 0), (0, 0), (0, 0), (0, 0), (0, 0), (0, 0), (0, 0), (8, 0), (9, 0), (10, 0), (12, 0), (11, 0), (14, 0)] r_p 12) (bx_val [(0, 0), (0, 0), (0, 0), (0, 0), (0, 0), (0, 0), (0, 0), (0, 0), (8, 0), (9, 0), (10, 0), (12, 0), (11, 0), (14, 0)] r_p 13)
    rw [bx_val_x (n := 8) (e := (8, 0)) h0_ rfl, bx_val_x (n := 9) (e := (9, 0)) h0_ rfl, bx_val_x (n := 10) (e := (10, 0)) h0_ rfl, bx_val_x (n := 11) (e := (12, 0)) h0_ rfl, bx_val_x (n := 12) (e := (11, 0)) h0_ rfl, bx_val_x (n := 13) (e := (14, 0)) h0_ rfl]
    exact g.2.2.1
  · show rxmCH_5 S0 ws S_p (bx_val [(0, 0), (0, 0), (0, 0), (0, 0), (0, 0), (0, 0), (0, 0), (0, 0), (8, 0), (9, 0), (10, 0), (12, 0), (11, 0), (14, 0)] r_p 8) (bx_val [(0, 0), (0, 0), (0, 0), (0, 0), (0, 0), (0, 0), (0, 0), (0, 0), (8, 0), (9, 0), (10, 0), (12, 0), (11, 0), (14, 0)] r_p 9) (bx_val [(0, 0), (0, 0), (0, 0), (0, 0), (0, 0), (0, 0), (0, 0), (0, 0), (8, 0), (9, 0), (10, 0), (12, 0), (11, 0), (14, 0)] r_p 10) (bx_val [(0, 0), (0, 0), (0, 0), (0, 0), (0, 0), (0, 0), (0, 0), (0, 0), (8, 0), (9, 0), (10, 0), (12, 0), (11, 0), (14, 0)] r_p 11) (bx_val [(0, 0), (0, 0), (0, 0), (0, 0), (0, 0), (0, 0), (0, 0), (0, 0), (8, 0), (9, 0), (10, 0), (12, 0), (11, 0), (14, 0)] r_p 12) (bx_val [(0, 0), (0, 0), (0, 0), (0, 0), (0, 0), (0, 0), (0, 0), (0, 0), (8, 0), (9, 0), (10, 0), (12, 0), (11, 0), (14, 0)] r_p 13) < rxmCH_4 S0 ws S_p (r 8) (r 9) (r 10) (r 11) (r 12)
    rw [bx_val_x (n := 8) (e := (8, 0)) h0_ rfl, bx_val_x (n := 9) (e := (9, 0)) h0_ rfl, bx_val_x (n := 10) (e := (10, 0)) h0_ rfl, bx_val_x (n := 11) (e := (12, 0)) h0_ rfl, bx_val_x (n := 12) (e := (11, 0)) h0_ rfl, bx_val_x (n := 13) (e := (14, 0)) h0_ rfl, ← hr_ 8 (by decide), ← hr_ 9 (by decide), ← hr_ 10 (by decide), ← hr_ 11 (by decide), ← hr_ 12 (by decide)]
    exact g.2.2.2
theorem rxcCH_4_1 {S0 : Nat → Int → Int} {ws : List Int} {S : Nat → Int → Int} {n k v c hd : Int} (hP : rxPCH S0 ws) (hin : bx_same rxL (bx_mdl rxCCH.2.2.1) S0 S) (I0 : bx_Inv rxL S) (hinv : rxICH_4 S0 ws S n k v c hd) (l8 : 0 ≤ n) (u8 : n ≤ 6) (l9 : 0 ≤ k) (u9 : k ≤ 6) (l10 : (-729000000000000) ≤ v) (u10 : v ≤ 729000000000000) (l11 : 0 ≤ c) (u11 : c ≤ 20) (l12 : 1 ≤ hd) (u12 : hd ≤ 7) (f0 : k < hd) : (True) ∧ (True) ∧ rxICH_9 S0 ws S n k v c ∧ rxmCH_9 S0 ws S n k v c < rxmCH_4 S0 ws S n k v c hd := by
  obtain ⟨sl, hw, hkn, s0, s1, hv, h, e1, e2, e3⟩ := hinv
  exact ⟨trivial, trivial, ⟨sl, hw, hkn, s0, s1, hv, by rw [show k.toNat = h by omega]; exact e3⟩, by unfold rxmCH_4 rxmCH_9; omega⟩
theorem rxgCH_4_1 {X : (Nat → Int → Int) → Prop} {S0 : Nat → Int → Int} {ws : List Int} (hP : rxPCH S0 ws) : bx_obC rxL X S0 rxCCH.2.2.1 (rxICH S0 ws) (rxmCH S0 ws) 4 rxzCH_4 rxoCH_4_1 := by
  intro S S_p r r_p hinv hX hin hsm_ hseg
  obtain ⟨I0, I1, h0_, hr_, b_, f_, d_⟩ := bx_cl (evs := []) (fvs := [(0, (9, 0), (12, 0), (0, 0))]) hseg (by decide +kernel) (by decide +kernel)
  have hinv : rxICH_4 S0 ws S (r 8) (r 9) (r 10) (r 11) (r 12) := hinv
  rw [← hr_ 8 (by decide), ← hr_ 9 (by decide), ← hr_ 10 (by decide), ← hr_ 11 (by decide), ← hr_ 12 (by decide)] at hinv
  obtain ⟨⟨l8, u8⟩, ⟨l9, u9⟩, ⟨l10, u10⟩, ⟨l11, u11⟩, ⟨l12, u12⟩, -⟩ := b_
  obtain ⟨f0, -⟩ := f_
  have w_ := d_
  subst w_
  have g := rxcCH_4_1 hP hin I0 hinv l8 u8 l9 u9 l10 u10 l11 u11 l12 u12 f0
  refine ⟨bx_narP_ok (l := []) g.1, bx_nfP_ok h0_ (fvs := []) (by decide +kernel) g.2.1, ?_, ?_⟩
  · show rxICH_9 S0 ws S_p (bx_val [(0, 0), (0, 0), (0, 0), (0, 0), (0, 0), (0, 0), (0, 0), (0, 0), (8, 0), (9, 0), (10, 0), (11, 0)] r_p 8) (bx_val [(0, 0), (0, 0), (0, 0), (0, 0), (0, 0), (0, 0), (0, 0), (0, 0), (8, 0), (9, 0), (10, 0), (11, 0)] r_p 9) (bx_val [(0, 0), (0, 0), (0, 0), (0, 0), (0, 0), (0, 0), (0, 0), (0, 0), (8, 0), (9, 0), (10, 0), (11, 0)] r_p 10) (bx_val [(0, 0), (0, 0), (0, 0), (0, 0), (0, 0), (0, 0), (0, 0), (0, 0), (8, 0), (9, 0), (10, 0), (11, 0)] r_p 11)
    rw [bx_val_x (n := 8) (e := (8, 0)) h0_ rfl, bx_val_x (n := 9) (e := (9, 0)) h0_ rfl, bx_val_x (n := 10) (e := (10, 0)) h0_ rfl, bx_val_x (n := 11) (e := (11, 0)) h0_ rfl]
    exact g.2.2.1
  · show rxmCH_9 S0 ws S_p (bx_val [(0, 0), (0, 0), (0, 0), (0, 0), (0, 0), (0, 0), (0, 0), (0, 0), (8, 0), (9, 0), (10, 0), (11, 0)] r_p 8) (bx_val [(0, 0), (0, 0), (0, 0), (0, 0), (0, 0), (0, 0), (0, 0), (0, 0), (8, 0), (9, 0), (10, 0), (11, 0)] r_p 9) (bx_val [(0, 0), (0, 0), (0, 0), (0, 0), (0, 0), (0, 0), (0, 0), (0, 0), (8, 0), (9, 0), (10, 0), (11, 0)] r_p 10) (bx_val [(0, 0), (0, 0), (0, 0), (0, 0), (0, 0), (0, 0), (0, 0), (0, 0), (8, 0), (9, 0), (10, 0), (11, 0)] r_p 11) < rxmCH_4 S0 ws S_p (r 8) (r 9) (r 10) (r 11) (r 12)
    rw [bx_val_x (n := 8) (e := (8, 0)) h0_ rfl, bx_val_x (n := 9) (e := (9, 0)) h0_ rfl, bx_val_x (n := 10) (e := (10, 0)) h0_ rfl, bx_val_x (n := 11) (e := (11, 0)) h0_ rfl, ← hr_ 8 (by decide), ← hr_ 9 (by decide), ← hr_ 10 (by decide), ← hr_ 11 (by decide), ← hr_ 12 (by decide)]
    exact g.2.2.2
theorem rxcCH_6_0 {S0 : Nat → Int → Int} {ws : List Int} {S : Nat → Int → Int} {n k v hd c f y : Int} (hP : rxPCH S0 ws) (hin : bx_same rxL (bx_mdl rxCCH.2.2.1) S0 S) (I0 : bx_Inv rxL S) (hinv : rxICH_6 S0 ws S n k v hd c f y) (l8 : 0 ≤ n) (u8 : n ≤ 6) (l9 : 0 ≤ k) (u9 : k ≤ 6) (l10 : (-729000000000000) ≤ v) (u10 : v ≤ 729000000000000) (l11 : 1 ≤ hd) (u11 : hd ≤ 6) (l12 : 0 ≤ c) (u12 : c ≤ 20) (l13 : 1 ≤ f) (u13 : f ≤ 12) (l14 : 0 ≤ y) (u14 : y ≤ 240) : (True) ∧ (True) ∧ rxICH_7 S0 ws S n k v hd y hd ∧ rxmCH_7 S0 ws S n k v hd y hd < rxmCH_6 S0 ws S n k v hd c f y := by
  exact ⟨trivial, trivial, ⟨rfl, hinv⟩, by unfold rxmCH_6 rxmCH_7; omega⟩
theorem rxgCH_6_0 {X : (Nat → Int → Int) → Prop} {S0 : Nat → Int → Int} {ws : List Int} (hP : rxPCH S0 ws) : bx_obC rxL X S0 rxCCH.2.2.1 (rxICH S0 ws) (rxmCH S0 ws) 6 rxzCH_6 rxoCH_6_0 := by
  intro S S_p r r_p hinv hX hin hsm_ hseg
  obtain ⟨I0, I1, h0_, hr_, b_, f_, d_⟩ := bx_cl (evs := []) (fvs := []) hseg (by decide +kernel) (by decide +kernel)
  have hinv : rxICH_6 S0 ws S (r 8) (r 9) (r 10) (r 11) (r 12) (r 13) (r 14) := hinv
  rw [← hr_ 8 (by decide), ← hr_ 9 (by decide), ← hr_ 10 (by decide), ← hr_ 11 (by decide), ← hr_ 12 (by decide), ← hr_ 13 (by decide), ← hr_ 14 (by decide)] at hinv
  obtain ⟨⟨l8, u8⟩, ⟨l9, u9⟩, ⟨l10, u10⟩, ⟨l11, u11⟩, ⟨l12, u12⟩, ⟨l13, u13⟩, ⟨l14, u14⟩, -⟩ := b_
  have w_ := d_
  subst w_
  have g := rxcCH_6_0 hP hin I0 hinv l8 u8 l9 u9 l10 u10 l11 u11 l12 u12 l13 u13 l14 u14
  refine ⟨bx_narP_ok (l := []) g.1, bx_nfP_ok h0_ (fvs := []) (by decide +kernel) g.2.1, ?_, ?_⟩
  · show rxICH_7 S0 ws S_p (bx_val [(0, 0), (0, 0), (0, 0), (0, 0), (0, 0), (0, 0), (0, 0), (0, 0), (8, 0), (9, 0), (10, 0), (11, 0), (14, 0), (11, 0)] r_p 8) (bx_val [(0, 0), (0, 0), (0, 0), (0, 0), (0, 0), (0, 0), (0, 0), (0, 0), (8, 0), (9, 0), (10, 0), (11, 0), (14, 0), (11, 0)] r_p 9) (bx_val [(0, 0), (0, 0), (0, 0), (0, 0), (0, 0), (0, 0), (0, 0), (0, 0), (8, 0), (9, 0), (10, 0), (11, 0), (14, 0), (11, 0)] r_p 10) (bx_val [(0, 0), (0, 0), (0, 0), (0, 0), (0, 0), (0, 0), (0, 0), (0, 0), (8, 0), (9, 0), (10, 0), (11, 0), (14, 0), (11, 0)] r_p 11) (bx_val [(0, 0), (0, 0), (0, 0), (0, 0), (0, 0), (0, 0), (0, 0), (0, 0), (8, 0), (9, 0), (10, 0), (11, 0), (14, 0), (11, 0)] r_p 12) (bx_val [(0, 0), (0, 0), (0, 0), (0, 0), (0, 0), (0, 0), (0, 0), (0, 0), (8, 0), (9, 0), (10, 0), (11, 0), (14, 0), (11, 0)] r_p 13)
    rw [bx_val_x (n := 8) (e := (8, 0)) h0_ rfl, bx_val_x (n := 9) (e := (9, 0)) h0_ rfl, bx_val_x (n := 10) (e := (10, 0)) h0_ rfl, bx_val_x (n := 11) (e := (11, 0)) h0_ rfl, bx_val_x (n := 12) (e := (14, 0)) h0_ rfl, bx_val_x (n := 13) (e := (11, 0)) h0_ rfl]
    exact g.2.2.1
  · show rxmCH_7 S0 ws S_p (bx_val [(0, 0), (0, 0), (0, 0), (0, 0), (0, 0), (0, 0), (0, 0), (0, 0), (8, 0), (9, 0), (10, 0), (11, 0), (14, 0), (11, 0)] r_p 8) (bx_val [(0, 0), (0, 0), (0, 0), (0, 0), (0, 0), (0, 0), (0, 0), (0, 0), (8, 0), (9, 0), (10, 0), (11, 0), (14, 0), (11, 0)] r_p 9) (bx_val [(0, 0), (0, 0), (0, 0), (0, 0), (0, 0), (0, 0), (0, 0), (0, 0), (8, 0), (9, 0), (10, 0), (11, 0), (14, 0), (11, 0)] r_p 10) (bx_val [(0, 0), (0, 0), (0, 0), (0, 0), (0, 0), (0, 0), (0, 0), (0, 0), (8, 0), (9, 0), (10, 0), (11, 0), (14, 0), (11, 0)] r_p 11) (bx_val [(0, 0), (0, 0), (0, 0), (0, 0), (0, 0), (0, 0), (0, 0), (0, 0), (8, 0), (9, 0), (10, 0), (11, 0), (14, 0), (11, 0)] r_p 12) (bx_val [(0, 0), (0, 0), (0, 0), (0, 0), (0, 0), (0, 0), (0, 0), (0, 0), (8, 0), (9, 0), (10, 0), (11, 0), (14, 0), (11, 0)] r_p 13) < rxmCH_6 S0 ws S_p (r 8) (r 9) (r 10) (r 11) (r 12) (r 13) (r 14)
    rw [bx_val_x (n := 8) (e := (8, 0)) h0_ rfl, bx_val_x (n := 9) (e := (9, 0)) h0_ rfl, bx_val_x (n := 10) (e := (10, 0)) h0_ rfl, bx_val_x (n := 11) (e := (11, 0)) h0_ rfl, bx_val_x (n := 12) (e := (14, 0)) h0_ rfl, bx_val_x (n := 13) (e := (11, 0)) h0_ rfl, ← hr_ 8 (by decide), ← hr_ 9 (by decide), ← hr_ 10 (by decide), ← hr_ 11 (by decide), ← hr_ 12 (by decide), ← hr_ 13 (by decide), ← hr_ 14 (by decide)]
    exact g.2.2.2
theorem rxcCH_8_0 {S0 : Nat → Int → Int} {ws : List Int} {S : Nat → Int → Int} {n k v hd y g z : Int} (hP : rxPCH S0 ws) (hin : bx_same rxL (bx_mdl rxCCH.2.2.1) S0 S) (I0 : bx_Inv rxL S) (hinv : rxICH_8 S0 ws S n k v hd y g z) (l8 : 0 ≤ n) (u8 : n ≤ 6) (l9 : 0 ≤ k) (u9 : k ≤ 6) (l10 : (-729000000000000) ≤ v) (u10 : v ≤ 729000000000000) (l11 : 1 ≤ hd) (u11 : hd ≤ 6) (l12 : 0 ≤ y) (u12 : y ≤ 240) (l13 : 1 ≤ g) (u13 : g ≤ 6) (l14 : 0 ≤ z) (u14 : z ≤ 20) : (True) ∧ (True) ∧ rxICH_4 S0 ws S n k v z (hd + 1) ∧ rxmCH_4 S0 ws S n k v z (hd + 1) < rxmCH_8 S0 ws S n k v hd y g z := by
  obtain ⟨sl, hw, hkn, s0, s1, hv, hk, h, e1, e2⟩ := hinv
  exact ⟨trivial, trivial, ⟨sl, hw, hkn, s0, s1, hv, h + 1, by omega, by omega, e2⟩, by unfold rxmCH_8 rxmCH_4; omega⟩
theorem rxgCH_8_0 {X : (Nat → Int → Int) → Prop} {S0 : Nat → Int → Int} {ws : List Int} (hP : rxPCH S0 ws) : bx_obC rxL X S0 rxCCH.2.2.1 (rxICH S0 ws) (rxmCH S0 ws) 8 rxzCH_8 rxoCH_8_0 := by
  intro S S_p r r_p hinv hX hin hsm_ hseg
  obtain ⟨I0, I1, h0_, hr_, b_, f_, d_⟩ := bx_cl (evs := []) (fvs := []) hseg (by decide +kernel) (by decide +kernel)
  have hinv : rxICH_8 S0 ws S (r 8) (r 9) (r 10) (r 11) (r 12) (r 13) (r 14) := hinv
  rw [← hr_ 8 (by decide), ← hr_ 9 (by decide), ← hr_ 10 (by decide), ← hr_ 11 (by decide), ← hr_ 12 (by decide), ← hr_ 13 (by decide), ← hr_ 14 (by decide)] at hinv
  obtain ⟨⟨l8, u8⟩, ⟨l9, u9⟩, ⟨l10, u10⟩, ⟨l11, u11⟩, ⟨l12, u12⟩, ⟨l13, u13⟩, ⟨l14, u14⟩, -⟩ := b_
  have w_ := d_
  subst w_
  have g := rxcCH_8_0 hP hin I0 hinv l8 u8 l9 u9 l10 u10 l11 u11 l12 u12 l13 u13 l14 u14
  refine ⟨bx_narP_ok (l := []) g.1, bx_nfP_ok h0_ (fvs := []) (by decide +kernel) g.2.1, ?_, ?_⟩
  · show rxICH_4 S0 ws S_p (bx_val [(0, 0), (0, 0), (0, 0), (0, 0), (0, 0), (0, 0), (0, 0), (0, 0), (8, 0), (9, 0), (10, 0), (14, 0), (11, 1)] r_p 8) (bx_val [(0, 0), (0, 0), (0, 0), (0, 0), (0, 0), (0, 0), (0, 0), (0, 0), (8, 0), (9, 0), (10, 0), (14, 0), (11, 1)] r_p 9) (bx_val [(0, 0), (0, 0), (0, 0), (0, 0), (0, 0), (0, 0), (0, 0), (0, 0), (8, 0), (9, 0), (10, 0), (14, 0), (11, 1)] r_p 10) (bx_val [(0, 0), (0, 0), (0, 0), (0, 0), (0, 0), (0, 0), (0, 0), (0, 0), (8, 0), (9, 0), (10, 0), (14, 0), (11, 1)] r_p 11) (bx_val [(0, 0), (0, 0), (0, 0), (0, 0), (0, 0), (0, 0), (0, 0), (0, 0), (8, 0), (9, 0), (10, 0), (14, 0), (11, 1)] r_p 12)
    rw [bx_val_x (n := 8) (e := (8, 0)) h0_ rfl, bx_val_x (n := 9) (e := (9, 0)) h0_ rfl, bx_val_x (n := 10) (e := (10, 0)) h0_ rfl, bx_val_x (n := 11) (e := (14, 0)) h0_ rfl, bx_val_x (n := 12) (e := (11, 1)) h0_ rfl]
    exact g.2.2.1
  · show rxmCH_4 S0 ws S_p (bx_val [(0, 0), (0, 0), (0, 0), (0, 0), (0, 0), (0, 0), (0, 0), (0, 0), (8, 0), (9, 0), (10, 0), (14, 0), (11, 1)] r_p 8) (bx_val [(0, 0), (0, 0), (0, 0), (0, 0), (0, 0), (0, 0), (0, 0), (0, 0), (8, 0), (9, 0), (10, 0), (14, 0), (11, 1)] r_p 9) (bx_val [(0, 0), (0, 0), (0, 0), (0, 0), (0, 0), (0, 0), (0, 0), (0, 0), (8, 0), (9, 0), (10, 0), (14, 0), (11, 1)] r_p 10) (bx_val [(0, 0), (0, 0), (0, 0), (0, 0), (0, 0), (0, 0), (0, 0), (0, 0), (8, 0), (9, 0), (10, 0), (14, 0), (11, 1)] r_p 11) (bx_val [(0, 0), (0, 0), (0, 0), (0, 0), (0, 0), (0, 0), (0, 0), (0, 0), (8, 0), (9, 0), (10, 0), (14, 0), (11, 1)] r_p 12) < rxmCH_8 S0 ws S_p (r 8) (r 9) (r 10) (r 11) (r 12) (r 13) (r 14)
    rw [bx_val_x (n := 8) (e := (8, 0)) h0_ rfl, bx_val_x (n := 9) (e := (9, 0)) h0_ rfl, bx_val_x (n := 10) (e := (10, 0)) h0_ rfl, bx_val_x (n := 11) (e := (14, 0)) h0_ rfl, bx_val_x (n := 12) (e := (11, 1)) h0_ rfl, ← hr_ 8 (by decide), ← hr_ 9 (by decide), ← hr_ 10 (by decide), ← hr_ 11 (by decide), ← hr_ 12 (by decide), ← hr_ 13 (by decide), ← hr_ 14 (by decide)]
    exact g.2.2.2
theorem rxdCH_10_0 {S0 : Nat → Int → Int} {ws : List Int} {S : Nat → Int → Int} {n k v c y : Int} (hP : rxPCH S0 ws) (hin : bx_same rxL (bx_mdl rxCCH.2.2.1) S0 S) (hin2 : bx_same rxL (bx_mdl rxCCH.2.2.1) S S) (I0 : bx_Inv rxL S) (I1 : bx_Inv rxL S) (hinv : rxICH_10 S0 ws S n k v c y) (l8 : 0 ≤ n) (u8 : n ≤ 6) (l9 : 0 ≤ k) (u9 : k ≤ 6) (l10 : (-729000000000000) ≤ v) (u10 : v ≤ 729000000000000) (l11 : 0 ≤ c) (u11 : c ≤ 20) (l12 : (-14580000000000000) ≤ y) (u12 : y ≤ 14580000000000000) : (True) ∧ rxPSCH S0 ws S (some y) := by
  obtain ⟨sl, hw, hkn, e⟩ := hinv
  exact ⟨trivial, n, k, sl, hw, congrArg some (by unfold rzDr; rw [if_neg (by omega)]; exact e)⟩
theorem rxfCH_10_0 {X : (Nat → Int → Int) → Prop} {S0 : Nat → Int → Int} {ws : List Int} (hP : rxPCH S0 ws) : bx_obE rxL X S0 rxCCH.2.2.1 (rxICH S0 ws) (rxPSCH S0 ws) 10 rxzCH_10 rxeCH_10_0 := by
  intro S S_p r r_p hinv hX hin hsm_ hseg
  obtain ⟨I0, I1, h0_, hr_, b_, f_, d_⟩ := bx_cl (evs := []) (fvs := []) hseg (by decide +kernel) (by decide +kernel)
  have hinv : rxICH_10 S0 ws S (r 8) (r 9) (r 10) (r 11) (r 12) := hinv
  rw [← hr_ 8 (by decide), ← hr_ 9 (by decide), ← hr_ 10 (by decide), ← hr_ 11 (by decide), ← hr_ 12 (by decide)] at hinv
  obtain ⟨⟨l8, u8⟩, ⟨l9, u9⟩, ⟨l10, u10⟩, ⟨l11, u11⟩, ⟨l12, u12⟩, -⟩ := b_
  have w_ := d_
  subst w_
  have g := rxdCH_10_0 hP hin hsm_ I0 I1 hinv l8 u8 l9 u9 l10 u10 l11 u11 l12 u12
  refine ⟨bx_narP_ok (l := []) g.1, ?_⟩
  show rxPSCH S0 ws S_p (some (bx_num r_p (.inr (1, (12, 0)))))
  rw [bx_xv_ok h0_]
  exact g.2
theorem rxgCCH {X : (Nat → Int → Int) → Prop} {S0 : Nat → Int → Int} {ws : List Int} (hP : rxPCH S0 ws) : bx_allI (fun i q => rxUCH q = true ∨ bx_allP (fun o => bx_obC rxL X S0 rxCCH.2.2.1 (rxICH S0 ws) (rxmCH S0 ws) i q.1 o) q.2.1) 0 rxYCH := ⟨Or.inr ⟨rxgCH_0_0 hP, trivial⟩, Or.inr ⟨rxgCH_1_0 hP, rxgCH_1_1 hP, rxgCH_1_2 hP, trivial⟩, Or.inl rfl, Or.inr ⟨rxgCH_3_0 hP, trivial⟩, Or.inr ⟨rxgCH_4_0 hP, rxgCH_4_1 hP, trivial⟩, Or.inl rfl, Or.inr ⟨rxgCH_6_0 hP, trivial⟩, Or.inl rfl, Or.inr ⟨rxgCH_8_0 hP, trivial⟩, Or.inl rfl, Or.inr trivial, trivial⟩
theorem rxgECH {X : (Nat → Int → Int) → Prop} {S0 : Nat → Int → Int} {ws : List Int} (hP : rxPCH S0 ws) : bx_allI (fun i q => rxUCH q = true ∨ bx_allP (fun E => bx_obE rxL X S0 rxCCH.2.2.1 (rxICH S0 ws) (rxPSCH S0 ws) i q.1 E) q.2.2) 0 rxYCH := ⟨Or.inr ⟨rxfCH_0_0 hP, trivial⟩, Or.inr trivial, Or.inl rfl, Or.inr trivial, Or.inr trivial, Or.inl rfl, Or.inr trivial, Or.inl rfl, Or.inr trivial, Or.inl rfl, Or.inr ⟨rxfCH_10_0 hP, trivial⟩, trivial⟩
theorem rxuCH {PX : State → Prop} {Dg : va_G} {A : Nat → Prop} {ad xa : Nat → Nat} {l : Launch} {X : (Nat → Int → Int) → Prop} (hPX : rx_PXOK rxNW A PX) (hX : ∀ S S1 : Nat → Int → Int, X S → bx_same rxL (bx_mdl rxCCH.2.2.1) S S1 → X S1) {S0 : Nat → Int → Int} {ws : List Int} (hP : rxPCH S0 ws) : ∀ (i : Nat) (q : bx_HE), rxYCH[i]? = some q → rxUCH q = true → ∀ {p : Program} {e : Env} {R : Room} {s : State} {m : MethodId} {args : Array Value} {below : List Frame} {meth : Method} {c : Code} {Q : State → Prop} {H0 : Heap}, rx_Fr rxG rxNW rxAO PX p s m args meth c rxM12 → (∀ q, H0.size ≤ q → A q) → H0 = s.heap → rxM12.2.2.2.2.2.2.1 ≤ R.cells → rxM12.2.2.2.2.2.2.2 ≤ R.slots → rxCCH.2.2.2.1 ≤ R.frames → rxCCH.2.2.2.1 * 40 ≤ R.locals → bx_Step p l e R s m args below meth c Q Dg rxL X vwCl A xa H0 ad rxM12 rxYCH (rxICH S0 ws) (rxmCH S0 ws) S0 rxCCH.2.2.1 i q := by
  intro i q hq hus p e R s m args below meth c Q H0 hF hA hH0 hmc hms hd hdl
  match i, hq with
  | 0, hq =>
    cases hq
    exact absurd (show false = true from hus) Bool.false_ne_true
  | 1, hq =>
    cases hq
    exact absurd (show false = true from hus) Bool.false_ne_true
  | 2, hq =>
    cases hq
    exact rx_stepBL (i_p := 3) (o := 20) (a := (12, 0)) (b := (13, 0)) (lo := (-729000000000000)) (hi := 729000000000000) (t := []) hF (Or.inl ⟨rfl, rfl⟩) (by decide +kernel) rfl rfl rfl rfl (rxsCH_2 hP)
  | 3, hq =>
    cases hq
    exact absurd (show false = true from hus) Bool.false_ne_true
  | 4, hq =>
    cases hq
    exact absurd (show false = true from hus) Bool.false_ne_true
  | 5, hq =>
    cases hq
    exact rx_stepBL (i_p := 6) (o := 20) (a := (12, 0)) (b := (13, 0)) (lo := 0) (hi := 240) (t := []) hF (Or.inl ⟨rfl, rfl⟩) (by decide +kernel) rfl rfl rfl rfl (rxsCH_5 hP)
  | 6, hq =>
    cases hq
    exact absurd (show false = true from hus) Bool.false_ne_true
  | 7, hq =>
    cases hq
    exact rx_stepBL (i_p := 8) (o := 21) (a := (12, 0)) (b := (13, 0)) (lo := 0) (hi := 20) (t := []) hF (Or.inr ⟨rfl, rfl⟩) (by decide +kernel) rfl rfl rfl rfl (rxsCH_7 hP)
  | 8, hq =>
    cases hq
    exact absurd (show false = true from hus) Bool.false_ne_true
  | 9, hq =>
    cases hq
    exact rx_stepBL (i_p := 10) (o := 20) (a := (10, 0)) (b := (11, 0)) (lo := (-14580000000000000)) (hi := 14580000000000000) (t := []) hF (Or.inl ⟨rfl, rfl⟩) (by decide +kernel) rfl rfl rfl rfl (rxsCH_9 hP)
  | 10, hq =>
    cases hq
    exact absurd (show false = true from hus) Bool.false_ne_true
  | n + 11, hq => cases hq
theorem rxQCH {PX : State → Prop} {Dg : va_G} {A : Nat → Prop} {ad xa : Nat → Nat} {l : Launch} {X : (Nat → Int → Int) → Prop} (hPX : rx_PXOK rxNW A PX) (hsl : ∀ s : State, PX s → ∀ o idx n : Nat, rxSl o idx = some n → ∃ tx : String, vk_R (rxNm o) idx tx (ad n) s)
    (hX : ∀ S S_p : Nat → Int → Int, X S → bx_same rxL (bx_mdl rxCCH.2.2.1) S S_p → X S_p)
    (ih : ∀ (j2 : Nat) (ct2 : bx_Ct) (M2 : rx_Mt), ct2 ∈ rxCnE j2 → ct2.2.2.2.1 + 1 ≤ rxCCH.2.2.2.1 → rxT.2.2.2.2.2 j2 = some M2 → bx_Con rxG rxNW rxAO PX Dg rxL X vwCl A ad l M2 ct2) : bx_ConP rxG rxNW rxAO PX Dg rxL X vwCl A ad l rxM12 rxCCH rxPCH rxPSCH :=
  rxQof (xa := xa) (Cn := rxCnE) (f := 30000) (j := 12) (tab := rxYCH) (us := rxUCH) hPX hsl hX ih rfl rxYcCH rxICH rxmCH
    (fun S0 ws r I0 I ht0 ht as he he1 hX0 hI0 hP hs ha => by
      have e := he.symm.trans (show bx_ent0 rxNP rxCCH.1 bx_I0 [] = some ([(0, 0), (0, 0), (0, 0), (0, 0), (0, 0), (0, 0), (0, 0), (0, 0), (0, 6), (0, 9), (0, 300)], [], [.inr (0, (8, 0)), .inr (0, (9, 0)), .inr (0, (10, 0))]) from rfl)
      cases e
      subst ha
      have h0 : r 0 = 0 := hs.1
      show rxICH_0 S0 _ S0 (r 8) (r 9) (r 10)
      refine ⟨rfl, ?_⟩
      simp only [List.map_cons, List.map_nil, bx_xv_ok h0]
      rfl)
    (fun S0 ws hP => rxuCH (xa := xa) hPX hX hP) (fun S0 ws hP => rxgCCH hP) (fun S0 ws hP => rxgECH hP)
/-! CONTRACT BY HAND, by program (wip/sim/genhand.py): DeadUnderstudies.drift -/
def rxI182_0 (S0 : Nat → Int → Int) (ws : List Int) (S : Nat → Int → Int) (n k : Int) : Prop := S = S0 ∧ ws = [0, n, k]
def rxm182_0 (S0 : Nat → Int → Int) (ws : List Int) (S : Nat → Int → Int) (n k : Int) : Nat := 100
def rxz182_0 : rx_Z := ([(0, 0), (0, 0), (0, 0), (0, 0), (0, 0), (0, 0), (0, 0), (0, 0), ((-2147483648), 2147483647), ((-2147483648), 2147483647)], [], [], 0, 0, 0, [(0, .inr (3, (0, 0))), (1, .inr (0, (8, 0))), (2, .inr (0, (9, 0)))], [])
def rxI182_1 (S0 : Nat → Int → Int) (ws : List Int) (S : Nat → Int → Int) (n k sl : Int) : Prop := S = S0 ∧ sl = S0 19 2 ∧ ws = [0, n, k]
def rxm182_1 (S0 : Nat → Int → Int) (ws : List Int) (S : Nat → Int → Int) (n k sl : Int) : Nat := 50
def rxz182_1 : rx_Z := ([(0, 0), (0, 0), (0, 0), (0, 0), (0, 0), (0, 0), (0, 0), (0, 0), (0, 6), (0, 9), (0, 300)], [], [], 0, 0, 35, [(0, .inr (3, (0, 0))), (1, .inr (0, (8, 0))), (2, .inr (0, (9, 0)))], [.inr (0, (10, 0)), .inr (0, (9, 0)), .inr (0, (8, 0))])
def rxI182_2 (S0 : Nat → Int → Int) (ws : List Int) (S : Nat → Int → Int) (n k sl res : Int) : Prop := rxPSCH S0 [n, k, S0 19 2] S (some res) ∧ ws = [0, n, k] ∧ bx_same rxL (bx_mdl rxCCH.2.2.1) S0 S
def rxm182_2 (S0 : Nat → Int → Int) (ws : List Int) (S : Nat → Int → Int) (n k sl res : Int) : Nat := 20
def rxz182_2 : rx_Z := ([(0, 0), (0, 0), (0, 0), (0, 0), (0, 0), (0, 0), (0, 0), (0, 0), (0, 6), (0, 9), (0, 300), ((-9223372036854775808), 9223372036854775807)], [], [], 0, 0, 38, [(0, .inr (3, (0, 0))), (1, .inr (0, (8, 0))), (2, .inr (0, (9, 0)))], [.inr (1, (11, 0))])
def rxo182_0_0 : bx_HO := (([(0, 0), (0, 0), (0, 0), (0, 0), (0, 0), (0, 0), (0, 0), (0, 0), (0, 6), (0, 9), (0, 300)], [], [(((0, 0), 1851192626986356797825753743950570534658660943933713684672217088000000), .inr (0, (10, 0))), (((0, 19), 2), .inr (0, (10, 0))), (((0, 1), 13), .inr (3, (0, 19))), (((0, 0), 0), .inr (3, (0, 1)))], 0, 0, 35, [(0, .inr (3, (0, 0))), (1, .inr (0, (8, 0))), (2, .inr (0, (9, 0)))], [.inr (0, (10, 0)), .inr (0, (9, 0)), .inr (0, (8, 0))]), [], [], [(0, 0), (0, 0), (0, 0), (0, 0), (0, 0), (0, 0), (0, 0), (0, 0), (8, 0), (9, 0), (10, 0)], 1)
def rxe182_0_0 : rx_End × List (Nat × Int × Int) := (([(0, 0), (0, 0), (0, 0), (0, 0), (0, 0), (0, 0), (0, 0), (0, 0), (0, 6), (10, 2147483647)], [], [], some (.inr (1, (0, (-1))))), [])
def rxe182_0_1 : rx_End × List (Nat × Int × Int) := (([(0, 0), (0, 0), (0, 0), (0, 0), (0, 0), (0, 0), (0, 0), (0, 0), (0, 6), ((-2147483648), (-1))], [], [], some (.inr (1, (0, (-1))))), [])
def rxe182_0_2 : rx_End × List (Nat × Int × Int) := (([(0, 0), (0, 0), (0, 0), (0, 0), (0, 0), (0, 0), (0, 0), (0, 0), (7, 2147483647), ((-2147483648), 2147483647)], [], [], some (.inr (1, (0, (-1))))), [])
def rxe182_0_3 : rx_End × List (Nat × Int × Int) := (([(0, 0), (0, 0), (0, 0), (0, 0), (0, 0), (0, 0), (0, 0), (0, 0), ((-2147483648), (-1)), ((-2147483648), 2147483647)], [], [], some (.inr (1, (0, (-1))))), [])
def rxe182_2_0 : rx_End × List (Nat × Int × Int) := (([(0, 0), (0, 0), (0, 0), (0, 0), (0, 0), (0, 0), (0, 0), (0, 0), (0, 6), (0, 9), (0, 300), ((-9223372036854775808), 9223372036854775807)], [], [], some (.inr (1, (11, 0)))), [])
def rxY182 : List bx_HE := [(rxz182_0, [rxo182_0_0], [rxe182_0_0, rxe182_0_1, rxe182_0_2, rxe182_0_3]), (rxz182_1, [], []), (rxz182_2, [], [rxe182_2_0])]
def rxU182 (q : bx_HE) : Bool := Nat.beq (rx_zpc q.1) 35
def rxYB182 : bx_B := (rxV, rxNP, rxDmf, bx_mdH rxC182.2.2.1)
set_option maxRecDepth 100000 in
theorem rxYc182 : bx_chkH rxYB182 rxM182 rxC182 rxY182 (rxU182, fun cut z => rx_ex2 (rxCT rxYB182 rxCnE) cut 30000 rxC182.2.2.2.1 182 z) = true := by decide +kernel
def rxI182 (S0 : Nat → Int → Int) (ws : List Int) (i : Nat) : bx_SP := fun S r => match i with | 0 => rxI182_0 S0 ws S (r 8) (r 9) | 1 => rxI182_1 S0 ws S (r 8) (r 9) (r 10) | 2 => rxI182_2 S0 ws S (r 8) (r 9) (r 10) (r 11) | _ => False
def rxm182 (S0 : Nat → Int → Int) (ws : List Int) (i : Nat) (S : Nat → Int → Int) (r : Nat → Int) : Nat := match i with | 0 => rxm182_0 S0 ws S (r 8) (r 9) | 1 => rxm182_1 S0 ws S (r 8) (r 9) (r 10) | 2 => rxm182_2 S0 ws S (r 8) (r 9) (r 10) (r 11) | _ => 0
def rxP182 (S0 : Nat → Int → Int) (ws : List Int) : Prop := True
def rxPS182 (S0 : Nat → Int → Int) (ws : List Int) (S : Nat → Int → Int) (w : Option Int) : Prop := ∃ n k : Int, ws = [0, n, k] ∧ (((n < 0 ∨ 6 < n ∨ k < 0 ∨ 9 < k) ∧ w = some (-1) ∧ bx_same rxL (bx_mdl rxCCH.2.2.1) S0 S) ∨ (0 ≤ n ∧ n ≤ 6 ∧ 0 ≤ k ∧ k ≤ 9 ∧ w = some (rzDr n k (S0 19 2)) ∧ bx_same rxL (bx_mdl rxCCH.2.2.1) S0 S))
theorem rxk182_1 {S0 : Nat → Int → Int} {ws : List Int} {S : Nat → Int → Int} {n k sl : Int} (hP : rxP182 S0 ws) (hin : bx_same rxL (bx_mdl rxC182.2.2.1) S0 S) (I0 : bx_Inv rxL S) (hinv : rxI182_1 S0 ws S n k sl) (l8 : 0 ≤ n) (u8 : n ≤ 6) (l9 : 0 ≤ k) (u9 : k ≤ 9) (l10 : 0 ≤ sl) (u10 : sl ≤ 300) : rxPCH S [n, k, sl] ∧ ∀ (S_p : Nat → Int → Int) (res : Int), (-9223372036854775808) ≤ res → res ≤ 9223372036854775807 → rxPSCH S [n, k, sl] S_p (some res) → bx_Inv rxL S_p → bx_same rxL (bx_mdl rxCCH.2.2.1) S S_p → rxI182_2 S0 ws S_p n k sl res ∧ rxm182_2 S0 ws S_p n k sl res < rxm182_1 S0 ws S n k sl := by
  obtain ⟨rfl, h1, hw⟩ := hinv
  subst h1
  exact ⟨trivial, fun S_p res _ _ hq _ hsm => ⟨⟨hq, hw, hsm⟩, by unfold rxm182_1 rxm182_2; omega⟩⟩
theorem rxs182_1 {X : (Nat → Int → Int) → Prop} {S0 : Nat → Int → Int} {ws : List Int} (hP : rxP182 S0 ws) : rx_obK X S0 rxC182.2.2.1 rxCCH.2.2.1 (rxI182 S0 ws) (rxm182 S0 ws) 1 2 rxz182_1 rxz182_2 [.inr (0, (8, 0)), .inr (0, (9, 0)), .inr (0, (10, 0))] (some 11) rxPCH rxPSCH := by
  intro S r hinv hXS I0 hin hs_ hf_
  have b_ := bx_bds_sat hs_
  have f_ := bx_fcl_ok hs_.1 hf_
  obtain ⟨⟨l8, u8⟩, ⟨l9, u9⟩, ⟨l10, u10⟩, -⟩ := b_
  have g := rxk182_1 hP hin I0 hinv l8 u8 l9 u9 l10 u10
  have ea : List.map (bx_num r) [.inr (0, (8, 0)), .inr (0, (9, 0)), .inr (0, (10, 0))] = [(r 8), (r 9), (r 10)] := by
    simp only [List.map_cons, List.map_nil, bx_xv_ok hs_.1]
    rfl
  rw [ea]
  refine ⟨g.1, fun S_p w r_p hPS hX_p I1 hsm hr hw hs_p => ?_⟩
  have hw := hw _ rfl
  subst hw
  have b_p := hs_p.2.2 11 _ _ rfl
  have g2 := g.2 S_p (r_p 11) b_p.1 b_p.2 hPS I1 hsm
  show rxI182_2 S0 ws S_p (r_p 8) (r_p 9) (r_p 10) (r_p 11) ∧ rxm182_2 S0 ws S_p (r_p 8) (r_p 9) (r_p 10) (r_p 11) < _
  rw [hr 8 (by decide), hr 9 (by decide), hr 10 (by decide)]
  exact g2
theorem rxc182_0_0 {S0 : Nat → Int → Int} {ws : List Int} {S : Nat → Int → Int} {n k x10 : Int} (hP : rxP182 S0 ws) (hin : bx_same rxL (bx_mdl rxC182.2.2.1) S0 S) (I0 : bx_Inv rxL S) (hinv : rxI182_0 S0 ws S n k) (l8 : 0 ≤ n) (u8 : n ≤ 6) (l9 : 0 ≤ k) (u9 : k ≤ 9) (l10 : 0 ≤ x10) (u10 : x10 ≤ 300) (e0 : S 19 2 = x10) : (True) ∧ (True) ∧ rxI182_1 S0 ws S n k x10 ∧ rxm182_1 S0 ws S n k x10 < rxm182_0 S0 ws S n k := by
  obtain ⟨rfl, hw⟩ := hinv
  exact ⟨trivial, trivial, ⟨rfl, by omega, hw⟩, by unfold rxm182_0 rxm182_1; omega⟩
theorem rxg182_0_0 {X : (Nat → Int → Int) → Prop} {S0 : Nat → Int → Int} {ws : List Int} (hP : rxP182 S0 ws) : bx_obC rxL X S0 rxC182.2.2.1 (rxI182 S0 ws) (rxm182 S0 ws) 0 rxz182_0 rxo182_0_0 := by
  intro S S_p r r_p hinv hX hin hsm_ hseg
  obtain ⟨I0, I1, h0_, hr_, b_, f_, d_⟩ := bx_cl (evs := [(0, (0, 19), (0, 2), .inr (0, (10, 0)))]) (fvs := []) hseg (by decide +kernel) (by decide +kernel)
  have hinv : rxI182_0 S0 ws S (r 8) (r 9) := hinv
  rw [← hr_ 8 (by decide), ← hr_ 9 (by decide)] at hinv
  obtain ⟨⟨l8, u8⟩, ⟨l9, u9⟩, ⟨l10, u10⟩, -⟩ := b_
  obtain ⟨e0, w_⟩ := d_
  subst w_
  have g := rxc182_0_0 hP hin I0 hinv l8 u8 l9 u9 l10 u10 e0
  refine ⟨bx_narP_ok (l := []) g.1, bx_nfP_ok h0_ (fvs := []) (by decide +kernel) g.2.1, ?_, ?_⟩
  · show rxI182_1 S0 ws S_p (bx_val [(0, 0), (0, 0), (0, 0), (0, 0), (0, 0), (0, 0), (0, 0), (0, 0), (8, 0), (9, 0), (10, 0)] r_p 8) (bx_val [(0, 0), (0, 0), (0, 0), (0, 0), (0, 0), (0, 0), (0, 0), (0, 0), (8, 0), (9, 0), (10, 0)] r_p 9) (bx_val [(0, 0), (0, 0), (0, 0), (0, 0), (0, 0), (0, 0), (0, 0), (0, 0), (8, 0), (9, 0), (10, 0)] r_p 10)
    rw [bx_val_x (n := 8) (e := (8, 0)) h0_ rfl, bx_val_x (n := 9) (e := (9, 0)) h0_ rfl, bx_val_x (n := 10) (e := (10, 0)) h0_ rfl]
    exact g.2.2.1
  · show rxm182_1 S0 ws S_p (bx_val [(0, 0), (0, 0), (0, 0), (0, 0), (0, 0), (0, 0), (0, 0), (0, 0), (8, 0), (9, 0), (10, 0)] r_p 8) (bx_val [(0, 0), (0, 0), (0, 0), (0, 0), (0, 0), (0, 0), (0, 0), (0, 0), (8, 0), (9, 0), (10, 0)] r_p 9) (bx_val [(0, 0), (0, 0), (0, 0), (0, 0), (0, 0), (0, 0), (0, 0), (0, 0), (8, 0), (9, 0), (10, 0)] r_p 10) < rxm182_0 S0 ws S_p (r 8) (r 9)
    rw [bx_val_x (n := 8) (e := (8, 0)) h0_ rfl, bx_val_x (n := 9) (e := (9, 0)) h0_ rfl, bx_val_x (n := 10) (e := (10, 0)) h0_ rfl, ← hr_ 8 (by decide), ← hr_ 9 (by decide)]
    exact g.2.2.2
theorem rxd182_0_0 {S0 : Nat → Int → Int} {ws : List Int} {S : Nat → Int → Int} {n k : Int} (hP : rxP182 S0 ws) (hin : bx_same rxL (bx_mdl rxC182.2.2.1) S0 S) (hin2 : bx_same rxL (bx_mdl rxC182.2.2.1) S S) (I0 : bx_Inv rxL S) (I1 : bx_Inv rxL S) (hinv : rxI182_0 S0 ws S n k) (l8 : 0 ≤ n) (u8 : n ≤ 6) (l9 : 10 ≤ k) (u9 : k ≤ 2147483647) : (True) ∧ rxPS182 S0 ws S (some ((-1))) := by
  obtain ⟨rfl, hw⟩ := hinv
  exact ⟨trivial, n, k, hw, Or.inl ⟨by omega, rfl, fun _ _ _ _ _ => rfl⟩⟩
theorem rxf182_0_0 {X : (Nat → Int → Int) → Prop} {S0 : Nat → Int → Int} {ws : List Int} (hP : rxP182 S0 ws) : bx_obE rxL X S0 rxC182.2.2.1 (rxI182 S0 ws) (rxPS182 S0 ws) 0 rxz182_0 rxe182_0_0 := by
  intro S S_p r r_p hinv hX hin hsm_ hseg
  obtain ⟨I0, I1, h0_, hr_, b_, f_, d_⟩ := bx_cl (evs := []) (fvs := []) hseg (by decide +kernel) (by decide +kernel)
  have hinv : rxI182_0 S0 ws S (r 8) (r 9) := hinv
  rw [← hr_ 8 (by decide), ← hr_ 9 (by decide)] at hinv
  obtain ⟨⟨l8, u8⟩, ⟨l9, u9⟩, -⟩ := b_
  have w_ := d_
  subst w_
  have g := rxd182_0_0 hP hin hsm_ I0 I1 hinv l8 u8 l9 u9
  refine ⟨bx_narP_ok (l := []) g.1, ?_⟩
  show rxPS182 S0 ws S_p (some (bx_num r_p (.inr (1, (0, (-1))))))
  rw [bx_xv_ok h0_]
  exact g.2
theorem rxd182_0_1 {S0 : Nat → Int → Int} {ws : List Int} {S : Nat → Int → Int} {n k : Int} (hP : rxP182 S0 ws) (hin : bx_same rxL (bx_mdl rxC182.2.2.1) S0 S) (hin2 : bx_same rxL (bx_mdl rxC182.2.2.1) S S) (I0 : bx_Inv rxL S) (I1 : bx_Inv rxL S) (hinv : rxI182_0 S0 ws S n k) (l8 : 0 ≤ n) (u8 : n ≤ 6) (l9 : (-2147483648) ≤ k) (u9 : k ≤ (-1)) : (True) ∧ rxPS182 S0 ws S (some ((-1))) := by
  obtain ⟨rfl, hw⟩ := hinv
  exact ⟨trivial, n, k, hw, Or.inl ⟨by omega, rfl, fun _ _ _ _ _ => rfl⟩⟩
theorem rxf182_0_1 {X : (Nat → Int → Int) → Prop} {S0 : Nat → Int → Int} {ws : List Int} (hP : rxP182 S0 ws) : bx_obE rxL X S0 rxC182.2.2.1 (rxI182 S0 ws) (rxPS182 S0 ws) 0 rxz182_0 rxe182_0_1 := by
  intro S S_p r r_p hinv hX hin hsm_ hseg
  obtain ⟨I0, I1, h0_, hr_, b_, f_, d_⟩ := bx_cl (evs := []) (fvs := []) hseg (by decide +kernel) (by decide +kernel)
  have hinv : rxI182_0 S0 ws S (r 8) (r 9) := hinv
  rw [← hr_ 8 (by decide), ← hr_ 9 (by decide)] at hinv
  obtain ⟨⟨l8, u8⟩, ⟨l9, u9⟩, -⟩ := b_
  have w_ := d_
  subst w_
  have g := rxd182_0_1 hP hin hsm_ I0 I1 hinv l8 u8 l9 u9
  refine ⟨bx_narP_ok (l := []) g.1, ?_⟩
  show rxPS182 S0 ws S_p (some (bx_num r_p (.inr (1, (0, (-1))))))
  rw [bx_xv_ok h0_]
  exact g.2
theorem rxd182_0_2 {S0 : Nat → Int → Int} {ws : List Int} {S : Nat → Int → Int} {n k : Int} (hP : rxP182 S0 ws) (hin : bx_same rxL (bx_mdl rxC182.2.2.1) S0 S) (hin2 : bx_same rxL (bx_mdl rxC182.2.2.1) S S) (I0 : bx_Inv rxL S) (I1 : bx_Inv rxL S) (hinv : rxI182_0 S0 ws S n k) (l8 : 7 ≤ n) (u8 : n ≤ 2147483647) (l9 : (-2147483648) ≤ k) (u9 : k ≤ 2147483647) : (True) ∧ rxPS182 S0 ws S (some ((-1))) := by
  obtain ⟨rfl, hw⟩ := hinv
  exact ⟨trivial, n, k, hw, Or.inl ⟨by omega, rfl, fun _ _ _ _ _ => rfl⟩⟩
theorem rxf182_0_2 {X : (Nat → Int → Int) → Prop} {S0 : Nat → Int → Int} {ws : List Int} (hP : rxP182 S0 ws) : bx_obE rxL X S0 rxC182.2.2.1 (rxI182 S0 ws) (rxPS182 S0 ws) 0 rxz182_0 rxe182_0_2 := by
  intro S S_p r r_p hinv hX hin hsm_ hseg
  obtain ⟨I0, I1, h0_, hr_, b_, f_, d_⟩ := bx_cl (evs := []) (fvs := []) hseg (by decide +kernel) (by decide +kernel)
  have hinv : rxI182_0 S0 ws S (r 8) (r 9) := hinv
  rw [← hr_ 8 (by decide), ← hr_ 9 (by decide)] at hinv
  obtain ⟨⟨l8, u8⟩, ⟨l9, u9⟩, -⟩ := b_
  have w_ := d_
  subst w_
  have g := rxd182_0_2 hP hin hsm_ I0 I1 hinv l8 u8 l9 u9
  refine ⟨bx_narP_ok (l := []) g.1, ?_⟩
  show rxPS182 S0 ws S_p (some (bx_num r_p (.inr (1, (0, (-1))))))
  rw [bx_xv_ok h0_]
  exact g.2
theorem rxd182_0_3 {S0 : Nat → Int → Int} {ws : List Int} {S : Nat → Int → Int} {n k : Int} (hP : rxP182 S0 ws) (hin : bx_same rxL (bx_mdl rxC182.2.2.1) S0 S) (hin2 : bx_same rxL (bx_mdl rxC182.2.2.1) S S) (I0 : bx_Inv rxL S) (I1 : bx_Inv rxL S) (hinv : rxI182_0 S0 ws S n k) (l8 : (-2147483648) ≤ n) (u8 : n ≤ (-1)) (l9 : (-2147483648) ≤ k) (u9 : k ≤ 2147483647) : (True) ∧ rxPS182 S0 ws S (some ((-1))) := by
  obtain ⟨rfl, hw⟩ := hinv
  exact ⟨trivial, n, k, hw, Or.inl ⟨by omega, rfl, fun _ _ _ _ _ => rfl⟩⟩
theorem rxf182_0_3 {X : (Nat → Int → Int) → Prop} {S0 : Nat → Int → Int} {ws : List Int} (hP : rxP182 S0 ws) : bx_obE rxL X S0 rxC182.2.2.1 (rxI182 S0 ws) (rxPS182 S0 ws) 0 rxz182_0 rxe182_0_3 := by
  intro S S_p r r_p hinv hX hin hsm_ hseg
  obtain ⟨I0, I1, h0_, hr_, b_, f_, d_⟩ := bx_cl (evs := []) (fvs := []) hseg (by decide +kernel) (by decide +kernel)
  have hinv : rxI182_0 S0 ws S (r 8) (r 9) := hinv
  rw [← hr_ 8 (by decide), ← hr_ 9 (by decide)] at hinv
  obtain ⟨⟨l8, u8⟩, ⟨l9, u9⟩, -⟩ := b_
  have w_ := d_
  subst w_
  have g := rxd182_0_3 hP hin hsm_ I0 I1 hinv l8 u8 l9 u9
  refine ⟨bx_narP_ok (l := []) g.1, ?_⟩
  show rxPS182 S0 ws S_p (some (bx_num r_p (.inr (1, (0, (-1))))))
  rw [bx_xv_ok h0_]
  exact g.2
theorem rxd182_2_0 {S0 : Nat → Int → Int} {ws : List Int} {S : Nat → Int → Int} {n k sl res : Int} (hP : rxP182 S0 ws) (hin : bx_same rxL (bx_mdl rxC182.2.2.1) S0 S) (hin2 : bx_same rxL (bx_mdl rxC182.2.2.1) S S) (I0 : bx_Inv rxL S) (I1 : bx_Inv rxL S) (hinv : rxI182_2 S0 ws S n k sl res) (l8 : 0 ≤ n) (u8 : n ≤ 6) (l9 : 0 ≤ k) (u9 : k ≤ 9) (l10 : 0 ≤ sl) (u10 : sl ≤ 300) (l11 : (-9223372036854775808) ≤ res) (u11 : res ≤ 9223372036854775807) : (True) ∧ rxPS182 S0 ws S (some res) := by
  obtain ⟨⟨a, b, c, e1, e2⟩, hw, hs⟩ := hinv
  simp only [List.cons.injEq, and_true] at e1
  obtain ⟨rfl, rfl, rfl⟩ := e1
  exact ⟨trivial, n, k, hw, Or.inr ⟨by omega, by omega, by omega, by omega, e2, hs⟩⟩
theorem rxf182_2_0 {X : (Nat → Int → Int) → Prop} {S0 : Nat → Int → Int} {ws : List Int} (hP : rxP182 S0 ws) : bx_obE rxL X S0 rxC182.2.2.1 (rxI182 S0 ws) (rxPS182 S0 ws) 2 rxz182_2 rxe182_2_0 := by
  intro S S_p r r_p hinv hX hin hsm_ hseg
  obtain ⟨I0, I1, h0_, hr_, b_, f_, d_⟩ := bx_cl (evs := []) (fvs := []) hseg (by decide +kernel) (by decide +kernel)
  have hinv : rxI182_2 S0 ws S (r 8) (r 9) (r 10) (r 11) := hinv
  rw [← hr_ 8 (by decide), ← hr_ 9 (by decide), ← hr_ 10 (by decide), ← hr_ 11 (by decide)] at hinv
  obtain ⟨⟨l8, u8⟩, ⟨l9, u9⟩, ⟨l10, u10⟩, ⟨l11, u11⟩, -⟩ := b_
  have w_ := d_
  subst w_
  have g := rxd182_2_0 hP hin hsm_ I0 I1 hinv l8 u8 l9 u9 l10 u10 l11 u11
  refine ⟨bx_narP_ok (l := []) g.1, ?_⟩
  show rxPS182 S0 ws S_p (some (bx_num r_p (.inr (1, (11, 0)))))
  rw [bx_xv_ok h0_]
  exact g.2
theorem rxgC182 {X : (Nat → Int → Int) → Prop} {S0 : Nat → Int → Int} {ws : List Int} (hP : rxP182 S0 ws) : bx_allI (fun i q => rxU182 q = true ∨ bx_allP (fun o => bx_obC rxL X S0 rxC182.2.2.1 (rxI182 S0 ws) (rxm182 S0 ws) i q.1 o) q.2.1) 0 rxY182 := ⟨Or.inr ⟨rxg182_0_0 hP, trivial⟩, Or.inl rfl, Or.inr trivial, trivial⟩
theorem rxgE182 {X : (Nat → Int → Int) → Prop} {S0 : Nat → Int → Int} {ws : List Int} (hP : rxP182 S0 ws) : bx_allI (fun i q => rxU182 q = true ∨ bx_allP (fun E => bx_obE rxL X S0 rxC182.2.2.1 (rxI182 S0 ws) (rxPS182 S0 ws) i q.1 E) q.2.2) 0 rxY182 := ⟨Or.inr ⟨rxf182_0_0 hP, rxf182_0_1 hP, rxf182_0_2 hP, rxf182_0_3 hP, trivial⟩, Or.inl rfl, Or.inr ⟨rxf182_2_0 hP, trivial⟩, trivial⟩
theorem rxu182 {PX : State → Prop} {Dg : va_G} {A : Nat → Prop} {ad xa : Nat → Nat} {l : Launch} {X : (Nat → Int → Int) → Prop} (hPX : rx_PXOK rxNW A PX) (hX : ∀ S S1 : Nat → Int → Int, X S → bx_same rxL (bx_mdl rxC182.2.2.1) S S1 → X S1) (hQCH : bx_ConP rxG rxNW rxAO PX Dg rxL X vwCl A ad l rxM12 rxCCH rxPCH rxPSCH) {S0 : Nat → Int → Int} {ws : List Int} (hP : rxP182 S0 ws) : ∀ (i : Nat) (q : bx_HE), rxY182[i]? = some q → rxU182 q = true → ∀ {p : Program} {e : Env} {R : Room} {s : State} {m : MethodId} {args : Array Value} {below : List Frame} {meth : Method} {c : Code} {Q : State → Prop} {H0 : Heap}, rx_Fr rxG rxNW rxAO PX p s m args meth c rxM182 → (∀ q, H0.size ≤ q → A q) → H0 = s.heap → rxM182.2.2.2.2.2.2.1 ≤ R.cells → rxM182.2.2.2.2.2.2.2 ≤ R.slots → rxC182.2.2.2.1 ≤ R.frames → rxC182.2.2.2.1 * 40 ≤ R.locals → bx_Step p l e R s m args below meth c Q Dg rxL X vwCl A xa H0 ad rxM182 rxY182 (rxI182 S0 ws) (rxm182 S0 ws) S0 rxC182.2.2.1 i q := by
  intro i q hq hus p e R s m args below meth c Q H0 hF hA hH0 hmc hms hd hdl
  match i, hq with
  | 0, hq =>
    cases hq
    exact absurd (show false = true from hus) Bool.false_ne_true
  | 1, hq =>
    cases hq
    exact rx_stepC (ins := .invokestatic 341) (len := 3) (i_p := 2) (M_p := rxM12) (d := rxC182.2.2.2.1) (as := [.inr (0, (8, 0)), .inr (0, (9, 0)), .inr (0, (10, 0))]) (t := []) (ct := rxCCH) hPX hF rfl hA hH0 hmc hms hd hdl (by decide +kernel) rfl rfl (by decide +kernel) (by decide +kernel) hQCH (by decide +kernel) rfl (Or.inr ⟨_, _, _, 2, rfl, rfl, by omega, rfl, rfl, rfl⟩) (rxs182_1 hP)
  | 2, hq =>
    cases hq
    exact absurd (show false = true from hus) Bool.false_ne_true
  | n + 3, hq => cases hq
theorem rxQ182 {PX : State → Prop} {Dg : va_G} {A : Nat → Prop} {ad xa : Nat → Nat} {l : Launch} {X : (Nat → Int → Int) → Prop} (hPX : rx_PXOK rxNW A PX) (hsl : ∀ s : State, PX s → ∀ o idx n : Nat, rxSl o idx = some n → ∃ tx : String, vk_R (rxNm o) idx tx (ad n) s)
    (hX : ∀ S S_p : Nat → Int → Int, X S → bx_same rxL (bx_mdl rxC182.2.2.1) S S_p → X S_p)
    (ih : ∀ (j2 : Nat) (ct2 : bx_Ct) (M2 : rx_Mt), ct2 ∈ rxCnE j2 → ct2.2.2.2.1 + 1 ≤ rxC182.2.2.2.1 → rxT.2.2.2.2.2 j2 = some M2 → bx_Con rxG rxNW rxAO PX Dg rxL X vwCl A ad l M2 ct2) (hQCH : bx_ConP rxG rxNW rxAO PX Dg rxL X vwCl A ad l rxM12 rxCCH rxPCH rxPSCH) : bx_ConP rxG rxNW rxAO PX Dg rxL X vwCl A ad l rxM182 rxC182 rxP182 rxPS182 :=
  rxQof (xa := xa) (Cn := rxCnE) (f := 30000) (j := 182) (tab := rxY182) (us := rxU182) hPX hsl hX ih rfl rxYc182 rxI182 rxm182
    (fun S0 ws r I0 I ht0 ht as he he1 hX0 hI0 hP hs ha => by
      have e := he.symm.trans (show bx_ent0 rxNP rxC182.1 bx_I0 [] = some ([(0, 0), (0, 0), (0, 0), (0, 0), (0, 0), (0, 0), (0, 0), (0, 0), ((-2147483648), 2147483647), ((-2147483648), 2147483647)], [], [.inr (3, (0, 0)), .inr (0, (8, 0)), .inr (0, (9, 0))]) from rfl)
      cases e
      subst ha
      have h0 : r 0 = 0 := hs.1
      show rxI182_0 S0 _ S0 (r 8) (r 9)
      refine ⟨rfl, ?_⟩
      simp only [List.map_cons, List.map_nil, bx_xv_ok h0]
      rfl)
    (fun S0 ws hP => rxu182 (xa := xa) hPX hX hQCH hP) (fun S0 ws hP => rxgC182 hP) (fun S0 ws hP => rxgE182 hP)
set_option maxHeartbeats 1000000 in
theorem rzQ182 {PX : State → Prop} {Dg : va_G} {A : Nat → Prop} {ad : Nat → Nat} {l : Launch} (hPX : rx_PXOK rxNW A PX) (hsl : ∀ s : State, PX s → ∀ o idx n : Nat, rxSl o idx = some n → ∃ tx : String, vk_R (rxNm o) idx tx (ad n) s) (ih : ∀ (j : Nat) (ct : bx_Ct) (M : rx_Mt), ct ∈ rxCn j → rxT.2.2.2.2.2 j = some M → bx_Con rxG rxNW rxAO PX Dg rxL rxX vwCl A ad l M ct) : bx_ConP rxG rxNW rxAO PX Dg rxL rxX vwCl A ad l rxM182 rxC182 (fun _ _ => True) rxPS182 := by
  have qCH := rxQCH (PX := PX) (Dg := Dg) (A := A) (ad := ad) (xa := fun n => n) (l := l) (X := rxX) hPX hsl (fun _ _ h hm => rxX_of (by decide +kernel) h hm) (fun _ _ _ h => absurd h List.not_mem_nil)
  have q182 := rxQ182 (PX := PX) (Dg := Dg) (A := A) (ad := ad) (xa := fun n => n) (l := l) (X := rxX) hPX hsl (fun _ _ h hm => rxX_of (by decide +kernel) h hm) (fun _ _ _ h => absurd h List.not_mem_nil) qCH
  exact fun S0 ws h1 h2 h3 _ => q182 S0 ws h1 h2 h3 trivial
