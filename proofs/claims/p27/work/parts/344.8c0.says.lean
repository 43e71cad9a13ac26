noncomputable def rxCWAC : bx_Ct := ([(3, (1, 1, 0)), (3, (2, 10, 0)), (0, (0, (-1), 11))], some (0, (0, 0, 100)), [], 2, [])
noncomputable def rxIWAC_0 (S0 : Nat → Int → Int) (ws : List Int) (S : Nat → Int → Int) (sc i : Int) : Prop := S = S0 ∧ ws = [1, sc, i]
noncomputable def rxmWAC_0 (S0 : Nat → Int → Int) (ws : List Int) (S : Nat → Int → Int) (sc i : Int) : Nat := 1000
noncomputable def rxzWAC_0 : rx_Z := ([(0, 0), (0, 0), (0, 0), (0, 0), (0, 0), (0, 0), (0, 0), (0, 0), (0, 1522), ((-1), 11)], [], [(((8, 0), 1000010), .inl none)], 0, 0, 0, [(0, .inr (3, (0, 1))), (1, .inr (3, (8, 0))), (2, .inr (0, (9, 0)))], [])
noncomputable def rxIWAC_1 (S0 : Nat → Int → Int) (ws : List Int) (S : Nat → Int → Int) (sc i wd st k : Int) : Prop := S = S0 ∧ ws = [1, sc, i] ∧ k ≤ i + 1 ∧ k ≤ S0 1 10 ∧ ∀ (a : Int) (P : Int → Int), sc = 23 + 3 * a → 0 ≤ a → a ≤ 17 → rjdRw S0 a P → rjPs P (fun k => S0 13 k) k.toNat = st ∧ st ≠ -1 ∧ ∀ j : Nat, k = (j : Int) + 1 → wd = rjPw P (fun k => S0 13 k) j
noncomputable def rxmWAC_1 (S0 : Nat → Int → Int) (ws : List Int) (S : Nat → Int → Int) (sc i wd st k : Int) : Nat := (100 - k).toNat
noncomputable def rxzWAC_1 : rx_Z := ([(0, 0), (0, 0), (0, 0), (0, 0), (0, 0), (0, 0), (0, 0), (0, 0), (0, 1522), ((-1), 11), (0, 100), ((-1), 5), (0, 12)], [], [(((8, 0), 1000010), .inl none)], 0, 0, 9, [(0, .inr (3, (0, 1))), (1, .inr (3, (8, 0))), (2, .inr (0, (9, 0))), (3, .inr (0, (10, 0))), (4, .inr (0, (11, 0))), (5, .inr (0, (12, 0)))], [])
noncomputable def rxoWAC_0_0 : bx_HO := (([(0, 0), (0, 0), (0, 0), (0, 0), (0, 0), (0, 0), (0, 0), (0, 0), (0, 1522), ((-1), 11)], [], [(((8, 0), 1000010), .inl none)], 0, 0, 9, [(5, .inr (0, (0, 0))), (4, .inr (0, (0, 0))), (3, .inr (0, (0, 100))), (0, .inr (3, (0, 1))), (1, .inr (3, (8, 0))), (2, .inr (0, (9, 0)))], []), [], [], [(0, 0), (0, 0), (0, 0), (0, 0), (0, 0), (0, 0), (0, 0), (0, 0), (8, 0), (9, 0), (0, 100), (0, 0), (0, 0)], 1)
noncomputable def rxoWAC_1_0 : bx_HO := (([(0, 0), (0, 0), (0, 0), (0, 0), (0, 0), (0, 0), (0, 0), (0, 0), (0, 1522), (0, 11), (0, 100), (0, 5), (0, 11), (1, 12), (0, 5), (0, 1522), (0, 30), (0, 35), (0, 9), (0, 5), (0, 1522), (0, 30), (0, 35), ((-1), 5)], [(604462909807314587353107000000, (22, 0), (21, 0)), (10, (21, 0), (11, 0)), (604462909807314587353102000000, (17, 0), (16, 0)), (10, (16, 0), (11, 0)), (0, (12, 0), (13, 0)), (1, (12, 0), (9, 0))], [(((0, 0), 1851192626986356797424407706285669663926783763198314667659231412000000), .inr (0, (23, 0))), (((0, 0), 1851192626986356797625047037163794926384839479479878431107186760000000), .inr (3, (20, 0))), (((8, 0), 1), .inr (3, (20, 0))), (((20, 0), 1000018), .inl none), (((0, 0), 1851192626986356797424377080872646779465072059483645808527867904000000), .inr (0, (19, 0))), (((0, 0), 1851192626986356797424392393579158221695927911340980238089715847000000), .inr (0, (18, 0))), (((0, 0), 1851192626986356797424340330377019318111018015026043177553363016000000), .inr (3, (15, 0))), (((8, 0), 0), .inr (3, (15, 0))), (((15, 0), 1000019), .inl none), (((0, 0), 1851192626986356797424377080872646779465072059483645808527867904000000), .inr (0, (14, 0))), (((0, 1), 11), .inr (3, (0, 13))), (((0, 0), 1851192626986356799431407398244775400849232659564395713092190208000000), .inr (0, (13, 0))), (((0, 1), 10), .inr (0, (13, 0))), (((8, 0), 1000010), .inl none)], 0, 0, 9, [(5, .inr (0, (12, 1))), (4, .inr (0, (23, 0))), (3, .inr (0, (18, 0))), (0, .inr (3, (0, 1))), (1, .inr (3, (8, 0))), (2, .inr (0, (9, 0)))], []), [], [], [(0, 0), (0, 0), (0, 0), (0, 0), (0, 0), (0, 0), (0, 0), (0, 0), (8, 0), (9, 0), (18, 0), (23, 0), (12, 1)], 1)
noncomputable def rxeWAC_1_0 : rx_End × List (Nat × Int × Int) := (([(0, 0), (0, 0), (0, 0), (0, 0), (0, 0), (0, 0), (0, 0), (0, 0), (0, 1522), (0, 11), (0, 100), (0, 5), (0, 11), (1, 12), (0, 5), (0, 1522), (0, 30), (0, 35), ((-1), (-1))], [(604462909807314587353102000000, (17, 0), (16, 0)), (10, (16, 0), (11, 0)), (0, (12, 0), (13, 0)), (1, (12, 0), (9, 0))], [(((0, 0), 1851192626986356797424392393579158221695927911340980238089715847000000), .inr (0, (18, 0))), (((0, 0), 1851192626986356797424340330377019318111018015026043177553363016000000), .inr (3, (15, 0))), (((8, 0), 0), .inr (3, (15, 0))), (((15, 0), 1000019), .inl none), (((0, 0), 1851192626986356797424377080872646779465072059483645808527867904000000), .inr (0, (14, 0))), (((0, 1), 11), .inr (3, (0, 13))), (((0, 0), 1851192626986356799431407398244775400849232659564395713092190208000000), .inr (0, (13, 0))), (((0, 1), 10), .inr (0, (13, 0))), (((8, 0), 1000010), .inl none)], some (.inr (0, (0, 100)))), [])
noncomputable def rxeWAC_1_1 : rx_End × List (Nat × Int × Int) := (([(0, 0), (0, 0), (0, 0), (0, 0), (0, 0), (0, 0), (0, 0), (0, 0), (0, 1522), (0, 11), (0, 100), ((-1), (-1)), (0, 11), (1, 12), (0, 5)], [(0, (12, 0), (13, 0)), (1, (12, 0), (9, 0))], [(((0, 0), 1851192626986356797424377080872646779465072059483645808527867904000000), .inr (0, (14, 0))), (((0, 1), 11), .inr (3, (0, 13))), (((0, 0), 1851192626986356799431407398244775400849232659564395713092190208000000), .inr (0, (13, 0))), (((0, 1), 10), .inr (0, (13, 0))), (((8, 0), 1000010), .inl none)], some (.inr (0, (0, 100)))), [])
noncomputable def rxeWAC_1_2 : rx_End × List (Nat × Int × Int) := (([(0, 0), (0, 0), (0, 0), (0, 0), (0, 0), (0, 0), (0, 0), (0, 0), (0, 1522), (0, 11), (0, 100), ((-1), 5), (0, 11), (0, 11)], [(1, (13, 0), (12, 0)), (1, (12, 0), (9, 0))], [(((0, 0), 1851192626986356799431407398244775400849232659564395713092190208000000), .inr (0, (13, 0))), (((0, 1), 10), .inr (0, (13, 0))), (((8, 0), 1000010), .inl none)], some (.inr (0, (10, 0)))), [])
noncomputable def rxeWAC_1_3 : rx_End × List (Nat × Int × Int) := (([(0, 0), (0, 0), (0, 0), (0, 0), (0, 0), (0, 0), (0, 0), (0, 0), (0, 1522), ((-1), 11), (0, 100), ((-1), 5), (0, 12)], [(0, (9, 0), (12, 0))], [(((8, 0), 1000010), .inl none)], some (.inr (0, (10, 0)))), [])
noncomputable def rxYWAC : List bx_HE := [(rxzWAC_0, [rxoWAC_0_0], []), (rxzWAC_1, [rxoWAC_1_0], [rxeWAC_1_0, rxeWAC_1_1, rxeWAC_1_2, rxeWAC_1_3])]
noncomputable def rxUWAC (q : bx_HE) : Bool := false
noncomputable def rxYBWAC : bx_B := (rxV, rxNP, rxDmf, bx_mdH rxCWAC.2.2.1)
set_option maxRecDepth 100000 in
theorem rxYcWAC : bx_chkH rxYBWAC rxM107 rxCWAC rxYWAC (rxUWAC, fun cut z => rx_ex2 (rxCT rxYBWAC rxCnE) cut 30000 rxCWAC.2.2.2.1 107 z) = true := by decide +kernel
noncomputable def rxIWAC (S0 : Nat → Int → Int) (ws : List Int) (i : Nat) : bx_SP := fun S r => match i with | 0 => rxIWAC_0 S0 ws S (r 8) (r 9) | 1 => rxIWAC_1 S0 ws S (r 8) (r 9) (r 10) (r 11) (r 12) | _ => False
noncomputable def rxmWAC (S0 : Nat → Int → Int) (ws : List Int) (i : Nat) (S : Nat → Int → Int) (r : Nat → Int) : Nat := match i with | 0 => rxmWAC_0 S0 ws S (r 8) (r 9) | 1 => rxmWAC_1 S0 ws S (r 8) (r 9) (r 10) (r 11) (r 12) | _ => 0
noncomputable def rxPWAC (S0 : Nat → Int → Int) (ws : List Int) : Prop := rkPl S0 ∧ ∃ (sc i a : Int) (P : Int → Int), ws = [1, sc, i] ∧ sc = 23 + 3 * a ∧ (0 ≤ a ∧ a ≤ 17) ∧ rjdRw S0 a P ∧ 0 ≤ i ∧ i < S0 1 10
noncomputable def rxPSWAC (S0 : Nat → Int → Int) (ws : List Int) (S : Nat → Int → Int) (w : Option Int) : Prop := S = S0 ∧ ∃ sc i : Int, ws = [1, sc, i] ∧ ∀ (a : Int) (P : Int → Int), sc = 23 + 3 * a → 0 ≤ a → a ≤ 17 → rjdRw S0 a P → w = some (rjPw P (fun k => S0 13 k) i.toNat)
theorem rxcWAC_0_0 {S0 : Nat → Int → Int} {ws : List Int} {S : Nat → Int → Int} {sc i : Int} (hP : rxPWAC S0 ws) (hin : bx_same rxL (bx_mdl rxCWAC.2.2.1) S0 S) (I0 : bx_Inv rxL S) (hinv : rxIWAC_0 S0 ws S sc i) (l8 : 0 ≤ sc) (u8 : sc ≤ 1522) (l9 : (-1) ≤ i) (u9 : i ≤ 11) : (True) ∧ (True) ∧ rxIWAC_1 S0 ws S sc i 100 0 0 ∧ rxmWAC_1 S0 ws S sc i 100 0 0 < rxmWAC_0 S0 ws S sc i := by
  obtain ⟨rfl, hw⟩ := hinv
  obtain ⟨hpl, sc2, i2, a0, P0, hw2, hsc, ⟨a0l, a0u⟩, hR, hi0, hi1⟩ := hP
  have k1_ : sc = sc2 := Option.some.inj (congrArg (fun l : List Int => l[1]?) (hw.symm.trans hw2))
  have k2_ : i = i2 := Option.some.inj (congrArg (fun l : List Int => l[2]?) (hw.symm.trans hw2))
  subst k1_
  subst k2_
  have b10 : 0 ≤ S 1 10 ∧ S 1 10 ≤ 12 := I0 1 10 (by decide) (by decide)
  exact ⟨trivial, trivial, ⟨rfl, hw2, by omega, b10.1, fun a P _ _ _ _ => ⟨rfl, by decide, fun j hj => by omega⟩⟩, by unfold rxmWAC_0 rxmWAC_1; omega⟩
theorem rxgWAC_0_0 {X : (Nat → Int → Int) → Prop} {S0 : Nat → Int → Int} {ws : List Int} (hP : rxPWAC S0 ws) : bx_obC rxL X S0 rxCWAC.2.2.1 (rxIWAC S0 ws) (rxmWAC S0 ws) 0 rxzWAC_0 rxoWAC_0_0 := by
  intro S S_p r r_p hinv hX hin hsm_ hseg
  obtain ⟨I0, I1, h0_, hr_, b_, f_, d_⟩ := bx_cl (evs := []) (fvs := []) hseg (by decide +kernel) (by decide +kernel)
  have hinv : rxIWAC_0 S0 ws S (r 8) (r 9) := hinv
  rw [← hr_ 8 (by decide), ← hr_ 9 (by decide)] at hinv
  obtain ⟨⟨l8, u8⟩, ⟨l9, u9⟩, -⟩ := b_
  have w_ := d_
  subst w_
  have g := rxcWAC_0_0 hP hin I0 hinv l8 u8 l9 u9
  refine ⟨bx_narP_ok (l := []) g.1, bx_nfP_ok h0_ (fvs := []) (by decide +kernel) g.2.1, ?_, ?_⟩
  · show rxIWAC_1 S0 ws S_p (bx_val [(0, 0), (0, 0), (0, 0), (0, 0), (0, 0), (0, 0), (0, 0), (0, 0), (8, 0), (9, 0), (0, 100), (0, 0), (0, 0)] r_p 8) (bx_val [(0, 0), (0, 0), (0, 0), (0, 0), (0, 0), (0, 0), (0, 0), (0, 0), (8, 0), (9, 0), (0, 100), (0, 0), (0, 0)] r_p 9) (bx_val [(0, 0), (0, 0), (0, 0), (0, 0), (0, 0), (0, 0), (0, 0), (0, 0), (8, 0), (9, 0), (0, 100), (0, 0), (0, 0)] r_p 10) (bx_val [(0, 0), (0, 0), (0, 0), (0, 0), (0, 0), (0, 0), (0, 0), (0, 0), (8, 0), (9, 0), (0, 100), (0, 0), (0, 0)] r_p 11) (bx_val [(0, 0), (0, 0), (0, 0), (0, 0), (0, 0), (0, 0), (0, 0), (0, 0), (8, 0), (9, 0), (0, 100), (0, 0), (0, 0)] r_p 12)
    rw [bx_val_x (n := 8) (e := (8, 0)) h0_ rfl, bx_val_x (n := 9) (e := (9, 0)) h0_ rfl, bx_val_x (n := 10) (e := (0, 100)) h0_ rfl, bx_val_x (n := 11) (e := (0, 0)) h0_ rfl, bx_val_x (n := 12) (e := (0, 0)) h0_ rfl]
    exact g.2.2.1
  · show rxmWAC_1 S0 ws S_p (bx_val [(0, 0), (0, 0), (0, 0), (0, 0), (0, 0), (0, 0), (0, 0), (0, 0), (8, 0), (9, 0), (0, 100), (0, 0), (0, 0)] r_p 8) (bx_val [(0, 0), (0, 0), (0, 0), (0, 0), (0, 0), (0, 0), (0, 0), (0, 0), (8, 0), (9, 0), (0, 100), (0, 0), (0, 0)] r_p 9) (bx_val [(0, 0), (0, 0), (0, 0), (0, 0), (0, 0), (0, 0), (0, 0), (0, 0), (8, 0), (9, 0), (0, 100), (0, 0), (0, 0)] r_p 10) (bx_val [(0, 0), (0, 0), (0, 0), (0, 0), (0, 0), (0, 0), (0, 0), (0, 0), (8, 0), (9, 0), (0, 100), (0, 0), (0, 0)] r_p 11) (bx_val [(0, 0), (0, 0), (0, 0), (0, 0), (0, 0), (0, 0), (0, 0), (0, 0), (8, 0), (9, 0), (0, 100), (0, 0), (0, 0)] r_p 12) < rxmWAC_0 S0 ws S_p (r 8) (r 9)
    rw [bx_val_x (n := 8) (e := (8, 0)) h0_ rfl, bx_val_x (n := 9) (e := (9, 0)) h0_ rfl, bx_val_x (n := 10) (e := (0, 100)) h0_ rfl, bx_val_x (n := 11) (e := (0, 0)) h0_ rfl, bx_val_x (n := 12) (e := (0, 0)) h0_ rfl, ← hr_ 8 (by decide), ← hr_ 9 (by decide)]
    exact g.2.2.2
theorem rxcWAC_1_0 {S0 : Nat → Int → Int} {ws : List Int} {S : Nat → Int → Int} {sc i wd st k x13 x14 x15 x16 x17 x18 x19 x20 x21 x22 x23 : Int} (hP : rxPWAC S0 ws) (hin : bx_same rxL (bx_mdl rxCWAC.2.2.1) S0 S) (I0 : bx_Inv rxL S) (hinv : rxIWAC_1 S0 ws S sc i wd st k) (l8 : 0 ≤ sc) (u8 : sc ≤ 1522) (l9 : 0 ≤ i) (u9 : i ≤ 11) (l10 : 0 ≤ wd) (u10 : wd ≤ 100) (l11 : 0 ≤ st) (u11 : st ≤ 5) (l12 : 0 ≤ k) (u12 : k ≤ 11) (l13 : 1 ≤ x13) (u13 : x13 ≤ 12) (l14 : 0 ≤ x14) (u14 : x14 ≤ 5) (l15 : 0 ≤ x15) (u15 : x15 ≤ 1522) (l16 : 0 ≤ x16) (u16 : x16 ≤ 30) (l17 : 0 ≤ x17) (u17 : x17 ≤ 35) (l18 : 0 ≤ x18) (u18 : x18 ≤ 9) (l19 : 0 ≤ x19) (u19 : x19 ≤ 5) (l20 : 0 ≤ x20) (u20 : x20 ≤ 1522) (l21 : 0 ≤ x21) (u21 : x21 ≤ 30) (l22 : 0 ≤ x22) (u22 : x22 ≤ 35) (l23 : (-1) ≤ x23) (u23 : x23 ≤ 5) (f0 : x22 = x21 + x19) (f1 : x21 = 6 * (st)) (f2 : x17 = x16 + x14) (f3 : x16 = 6 * (st)) (f4 : k < x13) (f5 : k ≤ i) (e6 : S 1 10 = x13) (e5 : S 13 k = x14) (e4 : S (sc).toNat 0 = x15) (e3 : S (x15).toNat x17 = x18) (e2 : S 13 k = x19) (e1 : S (sc).toNat 1 = x20) (e0 : S (x20).toNat x22 = x23) : (True) ∧ (True) ∧ rxIWAC_1 S0 ws S sc i x18 x23 (k + 1) ∧ rxmWAC_1 S0 ws S sc i x18 x23 (k + 1) < rxmWAC_1 S0 ws S sc i wd st k := by
  obtain ⟨rfl, hw, hki, hkc, hx⟩ := hinv
  obtain ⟨hpl, sc2, i2, a0, P0, hw2, hsc, ⟨a0l, a0u⟩, hR, hi0, hi1⟩ := hP
  have k1_ : sc = sc2 := Option.some.inj (congrArg (fun l : List Int => l[1]?) (hw.symm.trans hw2))
  have k2_ : i = i2 := Option.some.inj (congrArg (fun l : List Int => l[2]?) (hw.symm.trans hw2))
  subst k1_
  subst k2_
  have hk : ((k.toNat : Nat) : Int) = k := Int.toNat_of_nonneg (by omega)
  have hc : S 13 ((k.toNat : Nat) : Int) = x14 := by
    rw [hk]
    exact e5
  have a0_ : x15 = 24 + 3 * a0 := e4.symm.trans ((congrArg (fun z : Int => S z.toNat 0) hsc).trans (rjd_px hpl a0l a0u).1)
  subst a0_
  have ix : x17 = (6 * st + x14) := by omega
  subst ix
  have a1_ : x20 = 25 + 3 * a0 := e1.symm.trans ((congrArg (fun z : Int => S z.toNat 1) hsc).trans (rjd_px hpl a0l a0u).2)
  subst a1_
  have ix2 : x22 = (6 * st + x14) := by omega
  subst ix2
  refine ⟨trivial, trivial, ⟨rfl, hw2, by omega, by omega, fun a P h1 h2 h3 h4 => ?_⟩, by unfold rxmWAC_1; omega⟩
  obtain ⟨hs, hst, g⟩ := hx a P h1 h2 h3 h4
  have ea : a0 = a := by omega
  subst ea
  obtain ⟨⟨q0, q1⟩, v1, v2⟩ := h4 (6 * st + x14) (by omega) (by omega)
  have wx := rjdWo_x q0
  have x1 : rjWo (P (6 * st + x14)) = x18 := v1.symm.trans e3
  have x2 : rjNx (P (6 * st + x14)) = x23 := v2.symm.trans e0
  obtain ⟨y1, y2⟩ := rjPs_g (C := (fun k => S 13 k)) (k := k.toNat) hs (show (6 * st + x14) = 6 * st + S 13 ((k.toNat : Nat) : Int) by rw [hc]) hst (show P (6 * st + x14) ≠ -1 by omega)
  refine ⟨?_, by omega, fun j hj => ?_⟩
  · rw [show (k + 1).toNat = k.toNat + 1 by omega, y1]
    omega
  · rw [show j = k.toNat by omega, y2]
    omega
theorem rxgWAC_1_0 {X : (Nat → Int → Int) → Prop} {S0 : Nat → Int → Int} {ws : List Int} (hP : rxPWAC S0 ws) : bx_obC rxL X S0 rxCWAC.2.2.1 (rxIWAC S0 ws) (rxmWAC S0 ws) 1 rxzWAC_1 rxoWAC_1_0 := by
  intro S S_p r r_p hinv hX hin hsm_ hseg
  obtain ⟨I0, I1, h0_, hr_, b_, f_, d_⟩ := bx_cl (evs := [(0, (20, 0), (22, 0), .inr (0, (23, 0))), (0, (8, 0), (0, 1), .inr (3, (20, 0))), (0, (0, 13), (12, 0), .inr (0, (19, 0))), (0, (15, 0), (17, 0), .inr (0, (18, 0))), (0, (8, 0), (0, 0), .inr (3, (15, 0))), (0, (0, 13), (12, 0), .inr (0, (14, 0))), (0, (0, 1), (0, 10), .inr (0, (13, 0)))]) (fvs := [(5, (22, 0), (21, 0), (19, 0)), (4, (21, 0), (11, 0), (0, 6)), (5, (17, 0), (16, 0), (14, 0)), (4, (16, 0), (11, 0), (0, 6)), (0, (12, 0), (13, 0), (0, 0)), (1, (12, 0), (9, 0), (0, 0))]) hseg (by decide +kernel) (by decide +kernel)
  have hinv : rxIWAC_1 S0 ws S (r 8) (r 9) (r 10) (r 11) (r 12) := hinv
  rw [← hr_ 8 (by decide), ← hr_ 9 (by decide), ← hr_ 10 (by decide), ← hr_ 11 (by decide), ← hr_ 12 (by decide)] at hinv
  obtain ⟨⟨l8, u8⟩, ⟨l9, u9⟩, ⟨l10, u10⟩, ⟨l11, u11⟩, ⟨l12, u12⟩, ⟨l13, u13⟩, ⟨l14, u14⟩, ⟨l15, u15⟩, ⟨l16, u16⟩, ⟨l17, u17⟩, ⟨l18, u18⟩, ⟨l19, u19⟩, ⟨l20, u20⟩, ⟨l21, u21⟩, ⟨l22, u22⟩, ⟨l23, u23⟩, -⟩ := b_
  obtain ⟨f0, f1, f2, f3, f4, f5, -⟩ := f_
  obtain ⟨e0, ⟨e1, ⟨e2, ⟨e3, ⟨e4, ⟨e5, ⟨e6, w_⟩⟩⟩⟩⟩⟩⟩ := d_
  subst w_
  have g := rxcWAC_1_0 hP hin I0 hinv l8 u8 l9 u9 l10 u10 l11 u11 l12 u12 l13 u13 l14 u14 l15 u15 l16 u16 l17 u17 l18 u18 l19 u19 l20 u20 l21 u21 l22 u22 l23 u23 f0 f1 f2 f3 f4 f5 e6 e5 e4 e3 e2 e1 e0
  refine ⟨bx_narP_ok (l := []) g.1, bx_nfP_ok h0_ (fvs := []) (by decide +kernel) g.2.1, ?_, ?_⟩
  · show rxIWAC_1 S0 ws S_p (bx_val [(0, 0), (0, 0), (0, 0), (0, 0), (0, 0), (0, 0), (0, 0), (0, 0), (8, 0), (9, 0), (18, 0), (23, 0), (12, 1)] r_p 8) (bx_val [(0, 0), (0, 0), (0, 0), (0, 0), (0, 0), (0, 0), (0, 0), (0, 0), (8, 0), (9, 0), (18, 0), (23, 0), (12, 1)] r_p 9) (bx_val [(0, 0), (0, 0), (0, 0), (0, 0), (0, 0), (0, 0), (0, 0), (0, 0), (8, 0), (9, 0), (18, 0), (23, 0), (12, 1)] r_p 10) (bx_val [(0, 0), (0, 0), (0, 0), (0, 0), (0, 0), (0, 0), (0, 0), (0, 0), (8, 0), (9, 0), (18, 0), (23, 0), (12, 1)] r_p 11) (bx_val [(0, 0), (0, 0), (0, 0), (0, 0), (0, 0), (0, 0), (0, 0), (0, 0), (8, 0), (9, 0), (18, 0), (23, 0), (12, 1)] r_p 12)
    rw [bx_val_x (n := 8) (e := (8, 0)) h0_ rfl, bx_val_x (n := 9) (e := (9, 0)) h0_ rfl, bx_val_x (n := 10) (e := (18, 0)) h0_ rfl, bx_val_x (n := 11) (e := (23, 0)) h0_ rfl, bx_val_x (n := 12) (e := (12, 1)) h0_ rfl]
    exact g.2.2.1
  · show rxmWAC_1 S0 ws S_p (bx_val [(0, 0), (0, 0), (0, 0), (0, 0), (0, 0), (0, 0), (0, 0), (0, 0), (8, 0), (9, 0), (18, 0), (23, 0), (12, 1)] r_p 8) (bx_val [(0, 0), (0, 0), (0, 0), (0, 0), (0, 0), (0, 0), (0, 0), (0, 0), (8, 0), (9, 0), (18, 0), (23, 0), (12, 1)] r_p 9) (bx_val [(0, 0), (0, 0), (0, 0), (0, 0), (0, 0), (0, 0), (0, 0), (0, 0), (8, 0), (9, 0), (18, 0), (23, 0), (12, 1)] r_p 10) (bx_val [(0, 0), (0, 0), (0, 0), (0, 0), (0, 0), (0, 0), (0, 0), (0, 0), (8, 0), (9, 0), (18, 0), (23, 0), (12, 1)] r_p 11) (bx_val [(0, 0), (0, 0), (0, 0), (0, 0), (0, 0), (0, 0), (0, 0), (0, 0), (8, 0), (9, 0), (18, 0), (23, 0), (12, 1)] r_p 12) < rxmWAC_1 S0 ws S_p (r 8) (r 9) (r 10) (r 11) (r 12)
    rw [bx_val_x (n := 8) (e := (8, 0)) h0_ rfl, bx_val_x (n := 9) (e := (9, 0)) h0_ rfl, bx_val_x (n := 10) (e := (18, 0)) h0_ rfl, bx_val_x (n := 11) (e := (23, 0)) h0_ rfl, bx_val_x (n := 12) (e := (12, 1)) h0_ rfl, ← hr_ 8 (by decide), ← hr_ 9 (by decide), ← hr_ 10 (by decide), ← hr_ 11 (by decide), ← hr_ 12 (by decide)]
    exact g.2.2.2
theorem rxdWAC_1_0 {S0 : Nat → Int → Int} {ws : List Int} {S : Nat → Int → Int} {sc i wd st k x13 x14 x15 x16 x17 x18 : Int} (hP : rxPWAC S0 ws) (hin : bx_same rxL (bx_mdl rxCWAC.2.2.1) S0 S) (hin2 : bx_same rxL (bx_mdl rxCWAC.2.2.1) S S) (I0 : bx_Inv rxL S) (I1 : bx_Inv rxL S) (hinv : rxIWAC_1 S0 ws S sc i wd st k) (l8 : 0 ≤ sc) (u8 : sc ≤ 1522) (l9 : 0 ≤ i) (u9 : i ≤ 11) (l10 : 0 ≤ wd) (u10 : wd ≤ 100) (l11 : 0 ≤ st) (u11 : st ≤ 5) (l12 : 0 ≤ k) (u12 : k ≤ 11) (l13 : 1 ≤ x13) (u13 : x13 ≤ 12) (l14 : 0 ≤ x14) (u14 : x14 ≤ 5) (l15 : 0 ≤ x15) (u15 : x15 ≤ 1522) (l16 : 0 ≤ x16) (u16 : x16 ≤ 30) (l17 : 0 ≤ x17) (u17 : x17 ≤ 35) (l18 : (-1) ≤ x18) (u18 : x18 ≤ (-1)) (f0 : x17 = x16 + x14) (f1 : x16 = 6 * (st)) (f2 : k < x13) (f3 : k ≤ i) (e3 : S 1 10 = x13) (e2 : S 13 k = x14) (e1 : S (sc).toNat 0 = x15) (e0 : S (x15).toNat x17 = x18) : (True) ∧ rxPSWAC S0 ws S (some 100) := by
  obtain ⟨rfl, hw, hki, hkc, hx⟩ := hinv
  obtain ⟨hpl, sc2, i2, a0, P0, hw2, hsc, ⟨a0l, a0u⟩, hR, hi0, hi1⟩ := hP
  have k1_ : sc = sc2 := Option.some.inj (congrArg (fun l : List Int => l[1]?) (hw.symm.trans hw2))
  have k2_ : i = i2 := Option.some.inj (congrArg (fun l : List Int => l[2]?) (hw.symm.trans hw2))
  subst k1_
  subst k2_
  have hk : ((k.toNat : Nat) : Int) = k := Int.toNat_of_nonneg (by omega)
  have hc : S 13 ((k.toNat : Nat) : Int) = x14 := by
    rw [hk]
    exact e2
  have a0_ : x15 = 24 + 3 * a0 := e1.symm.trans ((congrArg (fun z : Int => S z.toNat 0) hsc).trans (rjd_px hpl a0l a0u).1)
  subst a0_
  have ix : x17 = (6 * st + x14) := by omega
  subst ix
  refine ⟨trivial, rfl, sc, i, hw2, fun a P h1 h2 h3 h4 => ?_⟩
  obtain ⟨hs, hst, g⟩ := hx a P h1 h2 h3 h4
  have ea : a0 = a := by omega
  subst ea
  obtain ⟨⟨q0, q1⟩, v1, v2⟩ := h4 (6 * st + x14) (by omega) (by omega)
  have wx := rjdWo_x q0
  have x1 : rjWo (P (6 * st + x14)) = x18 := v1.symm.trans e0
  obtain ⟨y1, y2⟩ := rjPs_h (C := (fun k => S 13 k)) (k := k.toNat) hs (show (6 * st + x14) = 6 * st + S 13 ((k.toNat : Nat) : Int) by rw [hc]) hst (show P (6 * st + x14) = -1 by omega)
  exact congrArg some (rjPw_le y1 y2 (by omega)).symm
theorem rxfWAC_1_0 {X : (Nat → Int → Int) → Prop} {S0 : Nat → Int → Int} {ws : List Int} (hP : rxPWAC S0 ws) : bx_obE rxL X S0 rxCWAC.2.2.1 (rxIWAC S0 ws) (rxPSWAC S0 ws) 1 rxzWAC_1 rxeWAC_1_0 := by
  intro S S_p r r_p hinv hX hin hsm_ hseg
  obtain ⟨I0, I1, h0_, hr_, b_, f_, d_⟩ := bx_cl (evs := [(0, (15, 0), (17, 0), .inr (0, (18, 0))), (0, (8, 0), (0, 0), .inr (3, (15, 0))), (0, (0, 13), (12, 0), .inr (0, (14, 0))), (0, (0, 1), (0, 10), .inr (0, (13, 0)))]) (fvs := [(5, (17, 0), (16, 0), (14, 0)), (4, (16, 0), (11, 0), (0, 6)), (0, (12, 0), (13, 0), (0, 0)), (1, (12, 0), (9, 0), (0, 0))]) hseg (by decide +kernel) (by decide +kernel)
  have hinv : rxIWAC_1 S0 ws S (r 8) (r 9) (r 10) (r 11) (r 12) := hinv
  rw [← hr_ 8 (by decide), ← hr_ 9 (by decide), ← hr_ 10 (by decide), ← hr_ 11 (by decide), ← hr_ 12 (by decide)] at hinv
  obtain ⟨⟨l8, u8⟩, ⟨l9, u9⟩, ⟨l10, u10⟩, ⟨l11, u11⟩, ⟨l12, u12⟩, ⟨l13, u13⟩, ⟨l14, u14⟩, ⟨l15, u15⟩, ⟨l16, u16⟩, ⟨l17, u17⟩, ⟨l18, u18⟩, -⟩ := b_
  obtain ⟨f0, f1, f2, f3, -⟩ := f_
  obtain ⟨e0, ⟨e1, ⟨e2, ⟨e3, w_⟩⟩⟩⟩ := d_
  subst w_
  have g := rxdWAC_1_0 hP hin hsm_ I0 I1 hinv l8 u8 l9 u9 l10 u10 l11 u11 l12 u12 l13 u13 l14 u14 l15 u15 l16 u16 l17 u17 l18 u18 f0 f1 f2 f3 e3 e2 e1 e0
  refine ⟨bx_narP_ok (l := []) g.1, ?_⟩
  show rxPSWAC S0 ws S_p (some (bx_num r_p (.inr (0, (0, 100)))))
  rw [bx_xv_ok h0_]
  exact g.2
theorem rxdWAC_1_1 {S0 : Nat → Int → Int} {ws : List Int} {S : Nat → Int → Int} {sc i wd st k x13 x14 : Int} (hP : rxPWAC S0 ws) (hin : bx_same rxL (bx_mdl rxCWAC.2.2.1) S0 S) (hin2 : bx_same rxL (bx_mdl rxCWAC.2.2.1) S S) (I0 : bx_Inv rxL S) (I1 : bx_Inv rxL S) (hinv : rxIWAC_1 S0 ws S sc i wd st k) (l8 : 0 ≤ sc) (u8 : sc ≤ 1522) (l9 : 0 ≤ i) (u9 : i ≤ 11) (l10 : 0 ≤ wd) (u10 : wd ≤ 100) (l11 : (-1) ≤ st) (u11 : st ≤ (-1)) (l12 : 0 ≤ k) (u12 : k ≤ 11) (l13 : 1 ≤ x13) (u13 : x13 ≤ 12) (l14 : 0 ≤ x14) (u14 : x14 ≤ 5) (f0 : k < x13) (f1 : k ≤ i) (e1 : S 1 10 = x13) (e0 : S 13 k = x14) : (True) ∧ rxPSWAC S0 ws S (some 100) := by
  obtain ⟨rfl, hw, hki, hkc, hx⟩ := hinv
  obtain ⟨hpl, sc2, i2, a0, P0, hw2, hsc, ⟨a0l, a0u⟩, hR, hi0, hi1⟩ := hP
  have k1_ : sc = sc2 := Option.some.inj (congrArg (fun l : List Int => l[1]?) (hw.symm.trans hw2))
  have k2_ : i = i2 := Option.some.inj (congrArg (fun l : List Int => l[2]?) (hw.symm.trans hw2))
  subst k1_
  subst k2_
  obtain ⟨-, hst, -⟩ := hx a0 P0 hsc a0l a0u hR
  exfalso
  omega
theorem rxfWAC_1_1 {X : (Nat → Int → Int) → Prop} {S0 : Nat → Int → Int} {ws : List Int} (hP : rxPWAC S0 ws) : bx_obE rxL X S0 rxCWAC.2.2.1 (rxIWAC S0 ws) (rxPSWAC S0 ws) 1 rxzWAC_1 rxeWAC_1_1 := by
  intro S S_p r r_p hinv hX hin hsm_ hseg
  obtain ⟨I0, I1, h0_, hr_, b_, f_, d_⟩ := bx_cl (evs := [(0, (0, 13), (12, 0), .inr (0, (14, 0))), (0, (0, 1), (0, 10), .inr (0, (13, 0)))]) (fvs := [(0, (12, 0), (13, 0), (0, 0)), (1, (12, 0), (9, 0), (0, 0))]) hseg (by decide +kernel) (by decide +kernel)
  have hinv : rxIWAC_1 S0 ws S (r 8) (r 9) (r 10) (r 11) (r 12) := hinv
  rw [← hr_ 8 (by decide), ← hr_ 9 (by decide), ← hr_ 10 (by decide), ← hr_ 11 (by decide), ← hr_ 12 (by decide)] at hinv
  obtain ⟨⟨l8, u8⟩, ⟨l9, u9⟩, ⟨l10, u10⟩, ⟨l11, u11⟩, ⟨l12, u12⟩, ⟨l13, u13⟩, ⟨l14, u14⟩, -⟩ := b_
  obtain ⟨f0, f1, -⟩ := f_
  obtain ⟨e0, ⟨e1, w_⟩⟩ := d_
  subst w_
  have g := rxdWAC_1_1 hP hin hsm_ I0 I1 hinv l8 u8 l9 u9 l10 u10 l11 u11 l12 u12 l13 u13 l14 u14 f0 f1 e1 e0
  refine ⟨bx_narP_ok (l := []) g.1, ?_⟩
  show rxPSWAC S0 ws S_p (some (bx_num r_p (.inr (0, (0, 100)))))
  rw [bx_xv_ok h0_]
  exact g.2
theorem rxdWAC_1_2 {S0 : Nat → Int → Int} {ws : List Int} {S : Nat → Int → Int} {sc i wd st k x13 : Int} (hP : rxPWAC S0 ws) (hin : bx_same rxL (bx_mdl rxCWAC.2.2.1) S0 S) (hin2 : bx_same rxL (bx_mdl rxCWAC.2.2.1) S S) (I0 : bx_Inv rxL S) (I1 : bx_Inv rxL S) (hinv : rxIWAC_1 S0 ws S sc i wd st k) (l8 : 0 ≤ sc) (u8 : sc ≤ 1522) (l9 : 0 ≤ i) (u9 : i ≤ 11) (l10 : 0 ≤ wd) (u10 : wd ≤ 100) (l11 : (-1) ≤ st) (u11 : st ≤ 5) (l12 : 0 ≤ k) (u12 : k ≤ 11) (l13 : 0 ≤ x13) (u13 : x13 ≤ 11) (f0 : x13 ≤ k) (f1 : k ≤ i) (e0 : S 1 10 = x13) : (True) ∧ rxPSWAC S0 ws S (some wd) := by
  obtain ⟨rfl, hw, hki, hkc, hx⟩ := hinv
  obtain ⟨hpl, sc2, i2, a0, P0, hw2, hsc, ⟨a0l, a0u⟩, hR, hi0, hi1⟩ := hP
  have k1_ : sc = sc2 := Option.some.inj (congrArg (fun l : List Int => l[1]?) (hw.symm.trans hw2))
  have k2_ : i = i2 := Option.some.inj (congrArg (fun l : List Int => l[2]?) (hw.symm.trans hw2))
  subst k1_
  subst k2_
  have hk1 : k = i + 1 := by omega
  refine ⟨trivial, rfl, sc, i, hw2, fun a P h1 h2 h3 h4 => ?_⟩
  obtain ⟨-, -, g⟩ := hx a P h1 h2 h3 h4
  exact congrArg some (g i.toNat (by omega))
theorem rxfWAC_1_2 {X : (Nat → Int → Int) → Prop} {S0 : Nat → Int → Int} {ws : List Int} (hP : rxPWAC S0 ws) : bx_obE rxL X S0 rxCWAC.2.2.1 (rxIWAC S0 ws) (rxPSWAC S0 ws) 1 rxzWAC_1 rxeWAC_1_2 := by
  intro S S_p r r_p hinv hX hin hsm_ hseg
  obtain ⟨I0, I1, h0_, hr_, b_, f_, d_⟩ := bx_cl (evs := [(0, (0, 1), (0, 10), .inr (0, (13, 0)))]) (fvs := [(1, (13, 0), (12, 0), (0, 0)), (1, (12, 0), (9, 0), (0, 0))]) hseg (by decide +kernel) (by decide +kernel)
  have hinv : rxIWAC_1 S0 ws S (r 8) (r 9) (r 10) (r 11) (r 12) := hinv
  rw [← hr_ 8 (by decide), ← hr_ 9 (by decide), ← hr_ 10 (by decide), ← hr_ 11 (by decide), ← hr_ 12 (by decide)] at hinv
  obtain ⟨⟨l8, u8⟩, ⟨l9, u9⟩, ⟨l10, u10⟩, ⟨l11, u11⟩, ⟨l12, u12⟩, ⟨l13, u13⟩, -⟩ := b_
  obtain ⟨f0, f1, -⟩ := f_
  obtain ⟨e0, w_⟩ := d_
  subst w_
  have g := rxdWAC_1_2 hP hin hsm_ I0 I1 hinv l8 u8 l9 u9 l10 u10 l11 u11 l12 u12 l13 u13 f0 f1 e0
  refine ⟨bx_narP_ok (l := []) g.1, ?_⟩
  show rxPSWAC S0 ws S_p (some (bx_num r_p (.inr (0, (10, 0)))))
  rw [bx_xv_ok h0_]
  exact g.2
theorem rxdWAC_1_3 {S0 : Nat → Int → Int} {ws : List Int} {S : Nat → Int → Int} {sc i wd st k : Int} (hP : rxPWAC S0 ws) (hin : bx_same rxL (bx_mdl rxCWAC.2.2.1) S0 S) (hin2 : bx_same rxL (bx_mdl rxCWAC.2.2.1) S S) (I0 : bx_Inv rxL S) (I1 : bx_Inv rxL S) (hinv : rxIWAC_1 S0 ws S sc i wd st k) (l8 : 0 ≤ sc) (u8 : sc ≤ 1522) (l9 : (-1) ≤ i) (u9 : i ≤ 11) (l10 : 0 ≤ wd) (u10 : wd ≤ 100) (l11 : (-1) ≤ st) (u11 : st ≤ 5) (l12 : 0 ≤ k) (u12 : k ≤ 12) (f0 : i < k) : (True) ∧ rxPSWAC S0 ws S (some wd) := by
  obtain ⟨rfl, hw, hki, hkc, hx⟩ := hinv
  obtain ⟨hpl, sc2, i2, a0, P0, hw2, hsc, ⟨a0l, a0u⟩, hR, hi0, hi1⟩ := hP
  have k1_ : sc = sc2 := Option.some.inj (congrArg (fun l : List Int => l[1]?) (hw.symm.trans hw2))
  have k2_ : i = i2 := Option.some.inj (congrArg (fun l : List Int => l[2]?) (hw.symm.trans hw2))
  subst k1_
  subst k2_
  have hk1 : k = i + 1 := by omega
  refine ⟨trivial, rfl, sc, i, hw2, fun a P h1 h2 h3 h4 => ?_⟩
  obtain ⟨-, -, g⟩ := hx a P h1 h2 h3 h4
  exact congrArg some (g i.toNat (by omega))
theorem rxfWAC_1_3 {X : (Nat → Int → Int) → Prop} {S0 : Nat → Int → Int} {ws : List Int} (hP : rxPWAC S0 ws) : bx_obE rxL X S0 rxCWAC.2.2.1 (rxIWAC S0 ws) (rxPSWAC S0 ws) 1 rxzWAC_1 rxeWAC_1_3 := by
  intro S S_p r r_p hinv hX hin hsm_ hseg
  obtain ⟨I0, I1, h0_, hr_, b_, f_, d_⟩ := bx_cl (evs := []) (fvs := [(0, (9, 0), (12, 0), (0, 0))]) hseg (by decide +kernel) (by decide +kernel)
  have hinv : rxIWAC_1 S0 ws S (r 8) (r 9) (r 10) (r 11) (r 12) := hinv
  rw [← hr_ 8 (by decide), ← hr_ 9 (by decide), ← hr_ 10 (by decide), ← hr_ 11 (by decide), ← hr_ 12 (by decide)] at hinv
  obtain ⟨⟨l8, u8⟩, ⟨l9, u9⟩, ⟨l10, u10⟩, ⟨l11, u11⟩, ⟨l12, u12⟩, -⟩ := b_
  obtain ⟨f0, -⟩ := f_
  have w_ := d_
  subst w_
  have g := rxdWAC_1_3 hP hin hsm_ I0 I1 hinv l8 u8 l9 u9 l10 u10 l11 u11 l12 u12 f0
  refine ⟨bx_narP_ok (l := []) g.1, ?_⟩
  show rxPSWAC S0 ws S_p (some (bx_num r_p (.inr (0, (10, 0)))))
  rw [bx_xv_ok h0_]
  exact g.2
theorem rxgCWAC {X : (Nat → Int → Int) → Prop} {S0 : Nat → Int → Int} {ws : List Int} (hP : rxPWAC S0 ws) : bx_allI (fun i q => rxUWAC q = true ∨ bx_allP (fun o => bx_obC rxL X S0 rxCWAC.2.2.1 (rxIWAC S0 ws) (rxmWAC S0 ws) i q.1 o) q.2.1) 0 rxYWAC := ⟨Or.inr ⟨rxgWAC_0_0 hP, trivial⟩, Or.inr ⟨rxgWAC_1_0 hP, trivial⟩, trivial⟩
theorem rxgEWAC {X : (Nat → Int → Int) → Prop} {S0 : Nat → Int → Int} {ws : List Int} (hP : rxPWAC S0 ws) : bx_allI (fun i q => rxUWAC q = true ∨ bx_allP (fun E => bx_obE rxL X S0 rxCWAC.2.2.1 (rxIWAC S0 ws) (rxPSWAC S0 ws) i q.1 E) q.2.2) 0 rxYWAC := ⟨Or.inr trivial, Or.inr ⟨rxfWAC_1_0 hP, rxfWAC_1_1 hP, rxfWAC_1_2 hP, rxfWAC_1_3 hP, trivial⟩, trivial⟩
theorem rxQWAC {PX : State → Prop} {Dg : va_G} {A : Nat → Prop} {ad xa : Nat → Nat} {l : Launch} {X : (Nat → Int → Int) → Prop} (hPX : rx_PXOK rxNW A PX) (hsl : ∀ s : State, PX s → ∀ o idx n : Nat, rxSl o idx = some n → ∃ tx : String, vk_R (rxNm o) idx tx (ad n) s)
    (hX : ∀ S S_p : Nat → Int → Int, X S → bx_same rxL (bx_mdl rxCWAC.2.2.1) S S_p → X S_p)
    (ih : ∀ (j2 : Nat) (ct2 : bx_Ct) (M2 : rx_Mt), ct2 ∈ rxCnE j2 → ct2.2.2.2.1 + 1 ≤ rxCWAC.2.2.2.1 → rxT.2.2.2.2.2 j2 = some M2 → bx_Con rxG rxNW rxAO PX Dg rxL X vwCl A ad l M2 ct2) : bx_ConP rxG rxNW rxAO PX Dg rxL X vwCl A ad l rxM107 rxCWAC rxPWAC rxPSWAC :=
  rxQof (xa := xa) (Cn := rxCnE) (f := 30000) (j := 107) (tab := rxYWAC) (us := rxUWAC) hPX hsl hX ih rfl rxYcWAC rxIWAC rxmWAC
    (fun S0 ws r I0 I ht0 ht as he he1 hX0 hI0 hP hs ha => by
      have e := he.symm.trans (show bx_ent0 rxNP rxCWAC.1 bx_I0 [] = some ([(0, 0), (0, 0), (0, 0), (0, 0), (0, 0), (0, 0), (0, 0), (0, 0), (0, 1522), ((-1), 11)], [(((8, 0), 1000010), .inl none)], [.inr (3, (0, 1)), .inr (3, (8, 0)), .inr (0, (9, 0))]) from rfl)
      cases e
      subst ha
      have h0 : r 0 = 0 := hs.1
      show rxIWAC_0 S0 _ S0 (r 8) (r 9)
      refine ⟨rfl, ?_⟩
      simp only [List.map_cons, List.map_nil, bx_xv_ok h0]
      rfl)
    (fun S0 ws hP => fun i q hq hus => absurd (show false = true from hus) Bool.false_ne_true) (fun S0 ws hP => rxgCWAC hP) (fun S0 ws hP => rxgEWAC hP)
noncomputable def rxISYD_0 (S0 : Nat → Int → Int) (ws : List Int) (S : Nat → Int → Int) (vs i : Int) : Prop := S = S0 ∧ ws = [0, vs, i]
noncomputable def rxmSYD_0 (S0 : Nat → Int → Int) (ws : List Int) (S : Nat → Int → Int) (vs i : Int) : Nat := 100
noncomputable def rxzSYD_0 : rx_Z := ([(0, 0), (0, 0), (0, 0), (0, 0), (0, 0), (0, 0), (0, 0), (0, 0), ((-2147483648), 2147483647), ((-2147483648), 2147483647)], [], [], 0, 0, 0, [(0, .inr (3, (0, 0))), (1, .inr (0, (8, 0))), (2, .inr (0, (9, 0)))], [])
noncomputable def rxISYD_1 (S0 : Nat → Int → Int) (ws : List Int) (S : Nat → Int → Int) (vs i sv : Int) : Prop := S = S0 ∧ ws = [0, vs, i] ∧ (0 ≤ vs ∧ vs < S0 1 5 ∧ 0 ≤ i ∧ i < S0 1 10) ∧ sv = 41 + 3 * vs
noncomputable def rxmSYD_1 (S0 : Nat → Int → Int) (ws : List Int) (S : Nat → Int → Int) (vs i sv : Int) : Nat := 90
noncomputable def rxzSYD_1 : rx_Z := ([(0, 0), (0, 0), (0, 0), (0, 0), (0, 0), (0, 0), (0, 0), (0, 0), (0, 11), (0, 11), (0, 1522)], [], [(((10, 0), 1000010), .inl none)], 0, 0, 41, [(0, .inr (3, (0, 0))), (1, .inr (0, (8, 0))), (2, .inr (0, (9, 0)))], [.inr (0, (9, 0)), .inr (3, (10, 0)), .inr (3, (0, 1))])
noncomputable def rxISYD_2 (S0 : Nat → Int → Int) (ws : List Int) (S : Nat → Int → Int) (vs i sv an : Int) : Prop := ws = [0, vs, i] ∧ (0 ≤ vs ∧ vs < S0 1 5 ∧ 0 ≤ i ∧ i < S0 1 10) ∧ ∀ P : Int → Int, rjdRw S0 (6 + vs) P → an = rjPw P (fun k => S0 13 k) i.toNat
noncomputable def rxmSYD_2 (S0 : Nat → Int → Int) (ws : List Int) (S : Nat → Int → Int) (vs i sv an : Int) : Nat := 80
noncomputable def rxzSYD_2 : rx_Z := ([(0, 0), (0, 0), (0, 0), (0, 0), (0, 0), (0, 0), (0, 0), (0, 0), (0, 11), (0, 11), (0, 1522), (0, 100)], [], [(((10, 0), 1000010), .inl none)], 0, 0, 44, [(0, .inr (3, (0, 0))), (1, .inr (0, (8, 0))), (2, .inr (0, (9, 0)))], [.inr (0, (11, 0))])
noncomputable def rxoSYD_0_0 : bx_HO := (([(0, 0), (0, 0), (0, 0), (0, 0), (0, 0), (0, 0), (0, 0), (0, 0), (0, 11), (0, 11), (1, 12), (1, 12), (0, 1522)], [(0, (9, 0), (11, 0)), (0, (8, 0), (10, 0))], [(((0, 0), 1851192626986356797424364830707437625680387377997778264871665664000000), .inr (3, (12, 0))), (((12, 0), 1000010), .inl none), (((0, 1), 9), .inr (3, (0, 12))), (((0, 0), 1851192626986356799431407398244775400849232659564395713092190208000000), .inr (0, (11, 0))), (((0, 1), 10), .inr (0, (11, 0))), (((0, 0), 1851192626986356798427873864310897359480125337295219445323071488000000), .inr (0, (10, 0))), (((0, 1), 5), .inr (0, (10, 0))), (((0, 0), 0), .inr (3, (0, 1)))], 0, 0, 41, [(0, .inr (3, (0, 0))), (1, .inr (0, (8, 0))), (2, .inr (0, (9, 0)))], [.inr (0, (9, 0)), .inr (3, (12, 0)), .inr (3, (0, 1))]), [], [], [(0, 0), (0, 0), (0, 0), (0, 0), (0, 0), (0, 0), (0, 0), (0, 0), (8, 0), (9, 0), (12, 0)], 1)
noncomputable def rxeSYD_0_0 : rx_End × List (Nat × Int × Int) := (([(0, 0), (0, 0), (0, 0), (0, 0), (0, 0), (0, 0), (0, 0), (0, 0), ((-2147483648), (-1)), ((-2147483648), 2147483647)], [], [(((0, 0), 0), .inr (3, (0, 1)))], some (.inr (0, (0, (-1))))), [])
noncomputable def rxeSYD_0_1 : rx_End × List (Nat × Int × Int) := (([(0, 0), (0, 0), (0, 0), (0, 0), (0, 0), (0, 0), (0, 0), (0, 0), (0, 2147483647), ((-2147483648), 2147483647), (0, 12)], [(1, (10, 0), (8, 0))], [(((0, 0), 1851192626986356798427873864310897359480125337295219445323071488000000), .inr (0, (10, 0))), (((0, 1), 5), .inr (0, (10, 0))), (((0, 0), 0), .inr (3, (0, 1)))], some (.inr (0, (0, (-1))))), [])
noncomputable def rxeSYD_0_2 : rx_End × List (Nat × Int × Int) := (([(0, 0), (0, 0), (0, 0), (0, 0), (0, 0), (0, 0), (0, 0), (0, 0), (0, 11), (0, 2147483647), (1, 12), (0, 12)], [(1, (11, 0), (9, 0)), (0, (8, 0), (10, 0))], [(((0, 0), 1851192626986356799431407398244775400849232659564395713092190208000000), .inr (0, (11, 0))), (((0, 1), 10), .inr (0, (11, 0))), (((0, 0), 1851192626986356798427873864310897359480125337295219445323071488000000), .inr (0, (10, 0))), (((0, 1), 5), .inr (0, (10, 0))), (((0, 0), 0), .inr (3, (0, 1)))], some (.inr (0, (0, (-1))))), [])
noncomputable def rxeSYD_0_3 : rx_End × List (Nat × Int × Int) := (([(0, 0), (0, 0), (0, 0), (0, 0), (0, 0), (0, 0), (0, 0), (0, 0), (0, 11), ((-2147483648), (-1)), (1, 12)], [(0, (8, 0), (10, 0))], [(((0, 0), 1851192626986356798427873864310897359480125337295219445323071488000000), .inr (0, (10, 0))), (((0, 1), 5), .inr (0, (10, 0))), (((0, 0), 0), .inr (3, (0, 1)))], some (.inr (0, (0, (-1))))), [])
noncomputable def rxeSYD_2_0 : rx_End × List (Nat × Int × Int) := (([(0, 0), (0, 0), (0, 0), (0, 0), (0, 0), (0, 0), (0, 0), (0, 0), (0, 11), (0, 11), (0, 1522), (0, 100)], [], [(((10, 0), 1000010), .inl none)], some (.inr (0, (11, 0)))), [])
noncomputable def rxYSYD : List bx_HE := [(rxzSYD_0, [rxoSYD_0_0], [rxeSYD_0_0, rxeSYD_0_1, rxeSYD_0_2, rxeSYD_0_3]), (rxzSYD_1, [], []), (rxzSYD_2, [], [rxeSYD_2_0])]
noncomputable def rxUSYD (q : bx_HE) : Bool := Nat.beq (rx_zpc q.1) 41
noncomputable def rxYBSYD : bx_B := (rxV, rxNP, rxDmf, bx_mdH rxC167.2.2.1)
set_option maxRecDepth 100000 in
theorem rxYcSYD : bx_chkH rxYBSYD rxM167 rxC167 rxYSYD (rxUSYD, fun cut z => rx_ex2 (rxCT rxYBSYD rxCnE) cut 30000 rxC167.2.2.2.1 167 z) = true := by decide +kernel
noncomputable def rxISYD (S0 : Nat → Int → Int) (ws : List Int) (i : Nat) : bx_SP := fun S r => match i with | 0 => rxISYD_0 S0 ws S (r 8) (r 9) | 1 => rxISYD_1 S0 ws S (r 8) (r 9) (r 10) | 2 => rxISYD_2 S0 ws S (r 8) (r 9) (r 10) (r 11) | _ => False
noncomputable def rxmSYD (S0 : Nat → Int → Int) (ws : List Int) (i : Nat) (S : Nat → Int → Int) (r : Nat → Int) : Nat := match i with | 0 => rxmSYD_0 S0 ws S (r 8) (r 9) | 1 => rxmSYD_1 S0 ws S (r 8) (r 9) (r 10) | 2 => rxmSYD_2 S0 ws S (r 8) (r 9) (r 10) (r 11) | _ => 0
noncomputable def rxPSYD (S0 : Nat → Int → Int) (ws : List Int) : Prop := rkPl S0 ∧ ∀ vs : Int, 0 ≤ vs → vs < S0 1 5 → ∃ P : Int → Int, rjdRw S0 (6 + vs) P
noncomputable def rxPSSYD (S0 : Nat → Int → Int) (ws : List Int) (S : Nat → Int → Int) (w : Option Int) : Prop := ∃ vs i : Int, ws = [0, vs, i] ∧ (((vs < 0 ∨ S0 1 5 ≤ vs ∨ i < 0 ∨ S0 1 10 ≤ i) ∧ w = some (-1)) ∨ ((0 ≤ vs ∧ vs < S0 1 5 ∧ 0 ≤ i ∧ i < S0 1 10) ∧ ∀ P : Int → Int, rjdRw S0 (6 + vs) P → w = some (rjPw P (fun k => S0 13 k) i.toNat)))
theorem rxkSYD_1 {S0 : Nat → Int → Int} {ws : List Int} {S : Nat → Int → Int} {vs i sv : Int} (hP : rxPSYD S0 ws) (hin : bx_same rxL (bx_mdl rxC167.2.2.1) S0 S) (I0 : bx_Inv rxL S) (hinv : rxISYD_1 S0 ws S vs i sv) (l8 : 0 ≤ vs) (u8 : vs ≤ 11) (l9 : 0 ≤ i) (u9 : i ≤ 11) (l10 : 0 ≤ sv) (u10 : sv ≤ 1522) : rxPWAC S [1, sv, i] ∧ ∀ (S_p : Nat → Int → Int) (an : Int), 0 ≤ an → an ≤ 100 → rxPSWAC S [1, sv, i] S_p (some an) → bx_Inv rxL S_p → bx_same rxL (bx_mdl rxCWAC.2.2.1) S S_p → rxISYD_2 S0 ws S_p vs i sv an ∧ rxmSYD_2 S0 ws S_p vs i sv an < rxmSYD_1 S0 ws S vs i sv := by
  obtain ⟨rfl, hw, hg, hsv⟩ := hinv
  obtain ⟨P0, hP0⟩ := hP.2 vs (by omega) (by omega)
  refine ⟨⟨hP.1, sv, i, 6 + vs, P0, rfl, by omega, ⟨by omega, by omega⟩, hP0, by omega, by omega⟩, fun S_p an _ _ hq _ hsm => ⟨⟨hw, hg, fun P hp => ?_⟩, by unfold rxmSYD_1 rxmSYD_2; omega⟩⟩
  obtain ⟨-, s2, i2, hw3, h⟩ := hq
  have k1 : sv = s2 := Option.some.inj (congrArg (fun l : List Int => l[1]?) hw3)
  have k2 : i = i2 := Option.some.inj (congrArg (fun l : List Int => l[2]?) hw3)
  subst k1
  subst k2
  exact Option.some.inj (h (6 + vs) P (by omega) (by omega) (by omega) hp)
theorem rxsSYD_1 {X : (Nat → Int → Int) → Prop} {S0 : Nat → Int → Int} {ws : List Int} (hP : rxPSYD S0 ws) : rx_obK X S0 rxC167.2.2.1 rxCWAC.2.2.1 (rxISYD S0 ws) (rxmSYD S0 ws) 1 2 rxzSYD_1 rxzSYD_2 [.inr (3, (0, 1)), .inr (3, (10, 0)), .inr (0, (9, 0))] (some 11) rxPWAC rxPSWAC := by
  intro S r hinv hXS I0 hin hs_ hf_
  have b_ := bx_bds_sat hs_
  have f_ := bx_fcl_ok hs_.1 hf_
  obtain ⟨⟨l8, u8⟩, ⟨l9, u9⟩, ⟨l10, u10⟩, -⟩ := b_
  have g := rxkSYD_1 hP hin I0 hinv l8 u8 l9 u9 l10 u10
  have ea : List.map (bx_num r) [.inr (3, (0, 1)), .inr (3, (10, 0)), .inr (0, (9, 0))] = [1, (r 10), (r 9)] := by
    simp only [List.map_cons, List.map_nil, bx_xv_ok hs_.1]
    rfl
  rw [ea]
  refine ⟨g.1, fun S_p w r_p hPS hX_p I1 hsm hr hw hs_p => ?_⟩
  have hw := hw _ rfl
  subst hw
  have b_p := hs_p.2.2 11 _ _ rfl
  have g2 := g.2 S_p (r_p 11) b_p.1 b_p.2 hPS I1 hsm
  show rxISYD_2 S0 ws S_p (r_p 8) (r_p 9) (r_p 10) (r_p 11) ∧ rxmSYD_2 S0 ws S_p (r_p 8) (r_p 9) (r_p 10) (r_p 11) < _
  rw [hr 8 (by decide), hr 9 (by decide), hr 10 (by decide)]
  exact g2
theorem rxcSYD_0_0 {S0 : Nat → Int → Int} {ws : List Int} {S : Nat → Int → Int} {vs i x10 x11 x12 : Int} (hP : rxPSYD S0 ws) (hin : bx_same rxL (bx_mdl rxC167.2.2.1) S0 S) (I0 : bx_Inv rxL S) (hinv : rxISYD_0 S0 ws S vs i) (l8 : 0 ≤ vs) (u8 : vs ≤ 11) (l9 : 0 ≤ i) (u9 : i ≤ 11) (l10 : 1 ≤ x10) (u10 : x10 ≤ 12) (l11 : 1 ≤ x11) (u11 : x11 ≤ 12) (l12 : 0 ≤ x12) (u12 : x12 ≤ 1522) (f0 : i < x11) (f1 : vs < x10) (e2 : S 1 5 = x10) (e1 : S 1 10 = x11) (e0 : S 12 vs = x12) : (True) ∧ (True) ∧ rxISYD_1 S0 ws S vs i x12 ∧ rxmSYD_1 S0 ws S vs i x12 < rxmSYD_0 S0 ws S vs i := by
  obtain ⟨rfl, hw⟩ := hinv
  obtain ⟨z12, -⟩ := hP.1.2.1.2 vs.toNat (by omega)
  rw [Int.toNat_of_nonneg (show 0 ≤ vs by omega)] at z12
  exact ⟨trivial, trivial, ⟨rfl, hw, by omega, e0.symm.trans (z12.trans (by omega))⟩, by unfold rxmSYD_0 rxmSYD_1; omega⟩
theorem rxgSYD_0_0 {X : (Nat → Int → Int) → Prop} {S0 : Nat → Int → Int} {ws : List Int} (hP : rxPSYD S0 ws) : bx_obC rxL X S0 rxC167.2.2.1 (rxISYD S0 ws) (rxmSYD S0 ws) 0 rxzSYD_0 rxoSYD_0_0 := by
  intro S S_p r r_p hinv hX hin hsm_ hseg
  obtain ⟨I0, I1, h0_, hr_, b_, f_, d_⟩ := bx_cl (evs := [(0, (0, 12), (8, 0), .inr (3, (12, 0))), (0, (0, 1), (0, 10), .inr (0, (11, 0))), (0, (0, 1), (0, 5), .inr (0, (10, 0)))]) (fvs := [(0, (9, 0), (11, 0), (0, 0)), (0, (8, 0), (10, 0), (0, 0))]) hseg (by decide +kernel) (by decide +kernel)
  have hinv : rxISYD_0 S0 ws S (r 8) (r 9) := hinv
  rw [← hr_ 8 (by decide), ← hr_ 9 (by decide)] at hinv
  obtain ⟨⟨l8, u8⟩, ⟨l9, u9⟩, ⟨l10, u10⟩, ⟨l11, u11⟩, ⟨l12, u12⟩, -⟩ := b_
  obtain ⟨f0, f1, -⟩ := f_
  obtain ⟨e0, ⟨e1, ⟨e2, w_⟩⟩⟩ := d_
  subst w_
  have g := rxcSYD_0_0 hP hin I0 hinv l8 u8 l9 u9 l10 u10 l11 u11 l12 u12 f0 f1 e2 e1 e0
  refine ⟨bx_narP_ok (l := []) g.1, bx_nfP_ok h0_ (fvs := []) (by decide +kernel) g.2.1, ?_, ?_⟩
  · show rxISYD_1 S0 ws S_p (bx_val [(0, 0), (0, 0), (0, 0), (0, 0), (0, 0), (0, 0), (0, 0), (0, 0), (8, 0), (9, 0), (12, 0)] r_p 8) (bx_val [(0, 0), (0, 0), (0, 0), (0, 0), (0, 0), (0, 0), (0, 0), (0, 0), (8, 0), (9, 0), (12, 0)] r_p 9) (bx_val [(0, 0), (0, 0), (0, 0), (0, 0), (0, 0), (0, 0), (0, 0), (0, 0), (8, 0), (9, 0), (12, 0)] r_p 10)
    rw [bx_val_x (n := 8) (e := (8, 0)) h0_ rfl, bx_val_x (n := 9) (e := (9, 0)) h0_ rfl, bx_val_x (n := 10) (e := (12, 0)) h0_ rfl]
    exact g.2.2.1
  · show rxmSYD_1 S0 ws S_p (bx_val [(0, 0), (0, 0), (0, 0), (0, 0), (0, 0), (0, 0), (0, 0), (0, 0), (8, 0), (9, 0), (12, 0)] r_p 8) (bx_val [(0, 0), (0, 0), (0, 0), (0, 0), (0, 0), (0, 0), (0, 0), (0, 0), (8, 0), (9, 0), (12, 0)] r_p 9) (bx_val [(0, 0), (0, 0), (0, 0), (0, 0), (0, 0), (0, 0), (0, 0), (0, 0), (8, 0), (9, 0), (12, 0)] r_p 10) < rxmSYD_0 S0 ws S_p (r 8) (r 9)
    rw [bx_val_x (n := 8) (e := (8, 0)) h0_ rfl, bx_val_x (n := 9) (e := (9, 0)) h0_ rfl, bx_val_x (n := 10) (e := (12, 0)) h0_ rfl, ← hr_ 8 (by decide), ← hr_ 9 (by decide)]
    exact g.2.2.2
theorem rxdSYD_0_0 {S0 : Nat → Int → Int} {ws : List Int} {S : Nat → Int → Int} {vs i : Int} (hP : rxPSYD S0 ws) (hin : bx_same rxL (bx_mdl rxC167.2.2.1) S0 S) (hin2 : bx_same rxL (bx_mdl rxC167.2.2.1) S S) (I0 : bx_Inv rxL S) (I1 : bx_Inv rxL S) (hinv : rxISYD_0 S0 ws S vs i) (l8 : (-2147483648) ≤ vs) (u8 : vs ≤ (-1)) (l9 : (-2147483648) ≤ i) (u9 : i ≤ 2147483647) : (True) ∧ rxPSSYD S0 ws S (some ((-1))) := by
  obtain ⟨rfl, hw⟩ := hinv
  exact ⟨trivial, vs, i, hw, Or.inl ⟨by omega, rfl⟩⟩
theorem rxfSYD_0_0 {X : (Nat → Int → Int) → Prop} {S0 : Nat → Int → Int} {ws : List Int} (hP : rxPSYD S0 ws) : bx_obE rxL X S0 rxC167.2.2.1 (rxISYD S0 ws) (rxPSSYD S0 ws) 0 rxzSYD_0 rxeSYD_0_0 := by
  intro S S_p r r_p hinv hX hin hsm_ hseg
  obtain ⟨I0, I1, h0_, hr_, b_, f_, d_⟩ := bx_cl (evs := []) (fvs := []) hseg (by decide +kernel) (by decide +kernel)
  have hinv : rxISYD_0 S0 ws S (r 8) (r 9) := hinv
  rw [← hr_ 8 (by decide), ← hr_ 9 (by decide)] at hinv
  obtain ⟨⟨l8, u8⟩, ⟨l9, u9⟩, -⟩ := b_
  have w_ := d_
  subst w_
  have g := rxdSYD_0_0 hP hin hsm_ I0 I1 hinv l8 u8 l9 u9
  refine ⟨bx_narP_ok (l := []) g.1, ?_⟩
  show rxPSSYD S0 ws S_p (some (bx_num r_p (.inr (0, (0, (-1))))))
  rw [bx_xv_ok h0_]
  exact g.2
theorem rxdSYD_0_1 {S0 : Nat → Int → Int} {ws : List Int} {S : Nat → Int → Int} {vs i x10 : Int} (hP : rxPSYD S0 ws) (hin : bx_same rxL (bx_mdl rxC167.2.2.1) S0 S) (hin2 : bx_same rxL (bx_mdl rxC167.2.2.1) S S) (I0 : bx_Inv rxL S) (I1 : bx_Inv rxL S) (hinv : rxISYD_0 S0 ws S vs i) (l8 : 0 ≤ vs) (u8 : vs ≤ 2147483647) (l9 : (-2147483648) ≤ i) (u9 : i ≤ 2147483647) (l10 : 0 ≤ x10) (u10 : x10 ≤ 12) (f0 : x10 ≤ vs) (e0 : S 1 5 = x10) : (True) ∧ rxPSSYD S0 ws S (some ((-1))) := by
  obtain ⟨rfl, hw⟩ := hinv
  exact ⟨trivial, vs, i, hw, Or.inl ⟨by omega, rfl⟩⟩
theorem rxfSYD_0_1 {X : (Nat → Int → Int) → Prop} {S0 : Nat → Int → Int} {ws : List Int} (hP : rxPSYD S0 ws) : bx_obE rxL X S0 rxC167.2.2.1 (rxISYD S0 ws) (rxPSSYD S0 ws) 0 rxzSYD_0 rxeSYD_0_1 := by
  intro S S_p r r_p hinv hX hin hsm_ hseg
  obtain ⟨I0, I1, h0_, hr_, b_, f_, d_⟩ := bx_cl (evs := [(0, (0, 1), (0, 5), .inr (0, (10, 0)))]) (fvs := [(1, (10, 0), (8, 0), (0, 0))]) hseg (by decide +kernel) (by decide +kernel)
  have hinv : rxISYD_0 S0 ws S (r 8) (r 9) := hinv
  rw [← hr_ 8 (by decide), ← hr_ 9 (by decide)] at hinv
  obtain ⟨⟨l8, u8⟩, ⟨l9, u9⟩, ⟨l10, u10⟩, -⟩ := b_
  obtain ⟨f0, -⟩ := f_
  obtain ⟨e0, w_⟩ := d_
  subst w_
  have g := rxdSYD_0_1 hP hin hsm_ I0 I1 hinv l8 u8 l9 u9 l10 u10 f0 e0
  refine ⟨bx_narP_ok (l := []) g.1, ?_⟩
  show rxPSSYD S0 ws S_p (some (bx_num r_p (.inr (0, (0, (-1))))))
  rw [bx_xv_ok h0_]
  exact g.2
theorem rxdSYD_0_2 {S0 : Nat → Int → Int} {ws : List Int} {S : Nat → Int → Int} {vs i x10 x11 : Int} (hP : rxPSYD S0 ws) (hin : bx_same rxL (bx_mdl rxC167.2.2.1) S0 S) (hin2 : bx_same rxL (bx_mdl rxC167.2.2.1) S S) (I0 : bx_Inv rxL S) (I1 : bx_Inv rxL S) (hinv : rxISYD_0 S0 ws S vs i) (l8 : 0 ≤ vs) (u8 : vs ≤ 11) (l9 : 0 ≤ i) (u9 : i ≤ 2147483647) (l10 : 1 ≤ x10) (u10 : x10 ≤ 12) (l11 : 0 ≤ x11) (u11 : x11 ≤ 12) (f0 : x11 ≤ i) (f1 : vs < x10) (e1 : S 1 5 = x10) (e0 : S 1 10 = x11) : (True) ∧ rxPSSYD S0 ws S (some ((-1))) := by
  obtain ⟨rfl, hw⟩ := hinv
  exact ⟨trivial, vs, i, hw, Or.inl ⟨by omega, rfl⟩⟩
theorem rxfSYD_0_2 {X : (Nat → Int → Int) → Prop} {S0 : Nat → Int → Int} {ws : List Int} (hP : rxPSYD S0 ws) : bx_obE rxL X S0 rxC167.2.2.1 (rxISYD S0 ws) (rxPSSYD S0 ws) 0 rxzSYD_0 rxeSYD_0_2 := by
  intro S S_p r r_p hinv hX hin hsm_ hseg
  obtain ⟨I0, I1, h0_, hr_, b_, f_, d_⟩ := bx_cl (evs := [(0, (0, 1), (0, 10), .inr (0, (11, 0))), (0, (0, 1), (0, 5), .inr (0, (10, 0)))]) (fvs := [(1, (11, 0), (9, 0), (0, 0)), (0, (8, 0), (10, 0), (0, 0))]) hseg (by decide +kernel) (by decide +kernel)
  have hinv : rxISYD_0 S0 ws S (r 8) (r 9) := hinv
  rw [← hr_ 8 (by decide), ← hr_ 9 (by decide)] at hinv
  obtain ⟨⟨l8, u8⟩, ⟨l9, u9⟩, ⟨l10, u10⟩, ⟨l11, u11⟩, -⟩ := b_
  obtain ⟨f0, f1, -⟩ := f_
  obtain ⟨e0, ⟨e1, w_⟩⟩ := d_
  subst w_
  have g := rxdSYD_0_2 hP hin hsm_ I0 I1 hinv l8 u8 l9 u9 l10 u10 l11 u11 f0 f1 e1 e0
  refine ⟨bx_narP_ok (l := []) g.1, ?_⟩
  show rxPSSYD S0 ws S_p (some (bx_num r_p (.inr (0, (0, (-1))))))
  rw [bx_xv_ok h0_]
  exact g.2
theorem rxdSYD_0_3 {S0 : Nat → Int → Int} {ws : List Int} {S : Nat → Int → Int} {vs i x10 : Int} (hP : rxPSYD S0 ws) (hin : bx_same rxL (bx_mdl rxC167.2.2.1) S0 S) (hin2 : bx_same rxL (bx_mdl rxC167.2.2.1) S S) (I0 : bx_Inv rxL S) (I1 : bx_Inv rxL S) (hinv : rxISYD_0 S0 ws S vs i) (l8 : 0 ≤ vs) (u8 : vs ≤ 11) (l9 : (-2147483648) ≤ i) (u9 : i ≤ (-1)) (l10 : 1 ≤ x10) (u10 : x10 ≤ 12) (f0 : vs < x10) (e0 : S 1 5 = x10) : (True) ∧ rxPSSYD S0 ws S (some ((-1))) := by
  obtain ⟨rfl, hw⟩ := hinv
  exact ⟨trivial, vs, i, hw, Or.inl ⟨by omega, rfl⟩⟩
theorem rxfSYD_0_3 {X : (Nat → Int → Int) → Prop} {S0 : Nat → Int → Int} {ws : List Int} (hP : rxPSYD S0 ws) : bx_obE rxL X S0 rxC167.2.2.1 (rxISYD S0 ws) (rxPSSYD S0 ws) 0 rxzSYD_0 rxeSYD_0_3 := by
  intro S S_p r r_p hinv hX hin hsm_ hseg
  obtain ⟨I0, I1, h0_, hr_, b_, f_, d_⟩ := bx_cl (evs := [(0, (0, 1), (0, 5), .inr (0, (10, 0)))]) (fvs := [(0, (8, 0), (10, 0), (0, 0))]) hseg (by decide +kernel) (by decide +kernel)
  have hinv : rxISYD_0 S0 ws S (r 8) (r 9) := hinv
  rw [← hr_ 8 (by decide), ← hr_ 9 (by decide)] at hinv
  obtain ⟨⟨l8, u8⟩, ⟨l9, u9⟩, ⟨l10, u10⟩, -⟩ := b_
  obtain ⟨f0, -⟩ := f_
  obtain ⟨e0, w_⟩ := d_
  subst w_
  have g := rxdSYD_0_3 hP hin hsm_ I0 I1 hinv l8 u8 l9 u9 l10 u10 f0 e0
  refine ⟨bx_narP_ok (l := []) g.1, ?_⟩
  show rxPSSYD S0 ws S_p (some (bx_num r_p (.inr (0, (0, (-1))))))
  rw [bx_xv_ok h0_]
  exact g.2
theorem rxdSYD_2_0 {S0 : Nat → Int → Int} {ws : List Int} {S : Nat → Int → Int} {vs i sv an : Int} (hP : rxPSYD S0 ws) (hin : bx_same rxL (bx_mdl rxC167.2.2.1) S0 S) (hin2 : bx_same rxL (bx_mdl rxC167.2.2.1) S S) (I0 : bx_Inv rxL S) (I1 : bx_Inv rxL S) (hinv : rxISYD_2 S0 ws S vs i sv an) (l8 : 0 ≤ vs) (u8 : vs ≤ 11) (l9 : 0 ≤ i) (u9 : i ≤ 11) (l10 : 0 ≤ sv) (u10 : sv ≤ 1522) (l11 : 0 ≤ an) (u11 : an ≤ 100) : (True) ∧ rxPSSYD S0 ws S (some an) := by
  obtain ⟨hw, hg, h⟩ := hinv
  exact ⟨trivial, vs, i, hw, Or.inr ⟨hg, fun P hp => congrArg some (h P hp)⟩⟩
theorem rxfSYD_2_0 {X : (Nat → Int → Int) → Prop} {S0 : Nat → Int → Int} {ws : List Int} (hP : rxPSYD S0 ws) : bx_obE rxL X S0 rxC167.2.2.1 (rxISYD S0 ws) (rxPSSYD S0 ws) 2 rxzSYD_2 rxeSYD_2_0 := by
  intro S S_p r r_p hinv hX hin hsm_ hseg
  obtain ⟨I0, I1, h0_, hr_, b_, f_, d_⟩ := bx_cl (evs := []) (fvs := []) hseg (by decide +kernel) (by decide +kernel)
  have hinv : rxISYD_2 S0 ws S (r 8) (r 9) (r 10) (r 11) := hinv
  rw [← hr_ 8 (by decide), ← hr_ 9 (by decide), ← hr_ 10 (by decide), ← hr_ 11 (by decide)] at hinv
  obtain ⟨⟨l8, u8⟩, ⟨l9, u9⟩, ⟨l10, u10⟩, ⟨l11, u11⟩, -⟩ := b_
  have w_ := d_
  subst w_
  have g := rxdSYD_2_0 hP hin hsm_ I0 I1 hinv l8 u8 l9 u9 l10 u10 l11 u11
  refine ⟨bx_narP_ok (l := []) g.1, ?_⟩
  show rxPSSYD S0 ws S_p (some (bx_num r_p (.inr (0, (11, 0)))))
  rw [bx_xv_ok h0_]
  exact g.2
theorem rxgCSYD {X : (Nat → Int → Int) → Prop} {S0 : Nat → Int → Int} {ws : List Int} (hP : rxPSYD S0 ws) : bx_allI (fun i q => rxUSYD q = true ∨ bx_allP (fun o => bx_obC rxL X S0 rxC167.2.2.1 (rxISYD S0 ws) (rxmSYD S0 ws) i q.1 o) q.2.1) 0 rxYSYD := ⟨Or.inr ⟨rxgSYD_0_0 hP, trivial⟩, Or.inl rfl, Or.inr trivial, trivial⟩
theorem rxgESYD {X : (Nat → Int → Int) → Prop} {S0 : Nat → Int → Int} {ws : List Int} (hP : rxPSYD S0 ws) : bx_allI (fun i q => rxUSYD q = true ∨ bx_allP (fun E => bx_obE rxL X S0 rxC167.2.2.1 (rxISYD S0 ws) (rxPSSYD S0 ws) i q.1 E) q.2.2) 0 rxYSYD := ⟨Or.inr ⟨rxfSYD_0_0 hP, rxfSYD_0_1 hP, rxfSYD_0_2 hP, rxfSYD_0_3 hP, trivial⟩, Or.inl rfl, Or.inr ⟨rxfSYD_2_0 hP, trivial⟩, trivial⟩
theorem rxuSYD {PX : State → Prop} {Dg : va_G} {A : Nat → Prop} {ad xa : Nat → Nat} {l : Launch} {X : (Nat → Int → Int) → Prop} (hPX : rx_PXOK rxNW A PX) (hX : ∀ S S1 : Nat → Int → Int, X S → bx_same rxL (bx_mdl rxC167.2.2.1) S S1 → X S1) (hQWAC : bx_ConP rxG rxNW rxAO PX Dg rxL X vwCl A ad l rxM107 rxCWAC rxPWAC rxPSWAC) {S0 : Nat → Int → Int} {ws : List Int} (hP : rxPSYD S0 ws) : ∀ (i : Nat) (q : bx_HE), rxYSYD[i]? = some q → rxUSYD q = true → ∀ {p : Program} {e : Env} {R : Room} {s : State} {m : MethodId} {args : Array Value} {below : List Frame} {meth : Method} {c : Code} {Q : State → Prop} {H0 : Heap}, rx_Fr rxG rxNW rxAO PX p s m args meth c rxM167 → (∀ q, H0.size ≤ q → A q) → H0 = s.heap → rxM167.2.2.2.2.2.2.1 ≤ R.cells → rxM167.2.2.2.2.2.2.2 ≤ R.slots → rxC167.2.2.2.1 ≤ R.frames → rxC167.2.2.2.1 * 40 ≤ R.locals → bx_Step p l e R s m args below meth c Q Dg rxL X vwCl A xa H0 ad rxM167 rxYSYD (rxISYD S0 ws) (rxmSYD S0 ws) S0 rxC167.2.2.1 i q := by
  intro i q hq hus p e R s m args below meth c Q H0 hF hA hH0 hmc hms hd hdl
  match i, hq with
  | 0, hq =>
    cases hq
    exact absurd (show false = true from hus) Bool.false_ne_true
  | 1, hq =>
    cases hq
    exact rx_stepC (ins := .invokevirtual 287) (len := 3) (i_p := 2) (M_p := rxM107) (d := rxC167.2.2.2.1) (as := [.inr (3, (0, 1)), .inr (3, (10, 0)), .inr (0, (9, 0))]) (t := []) (ct := rxCWAC) hPX hF rfl hA hH0 hmc hms hd hdl (by decide +kernel) rfl rfl (by decide +kernel) (by decide +kernel) hQWAC (by decide +kernel) rfl (Or.inr ⟨_, _, _, 1, rfl, rfl, by omega, rfl, rfl, rfl⟩) (rxsSYD_1 hP)
  | 2, hq =>
    cases hq
    exact absurd (show false = true from hus) Bool.false_ne_true
  | n + 3, hq => cases hq
theorem rxQSYD {PX : State → Prop} {Dg : va_G} {A : Nat → Prop} {ad xa : Nat → Nat} {l : Launch} {X : (Nat → Int → Int) → Prop} (hPX : rx_PXOK rxNW A PX) (hsl : ∀ s : State, PX s → ∀ o idx n : Nat, rxSl o idx = some n → ∃ tx : String, vk_R (rxNm o) idx tx (ad n) s)
    (hX : ∀ S S_p : Nat → Int → Int, X S → bx_same rxL (bx_mdl rxC167.2.2.1) S S_p → X S_p)
    (ih : ∀ (j2 : Nat) (ct2 : bx_Ct) (M2 : rx_Mt), ct2 ∈ rxCnE j2 → ct2.2.2.2.1 + 1 ≤ rxC167.2.2.2.1 → rxT.2.2.2.2.2 j2 = some M2 → bx_Con rxG rxNW rxAO PX Dg rxL X vwCl A ad l M2 ct2) (hQWAC : bx_ConP rxG rxNW rxAO PX Dg rxL X vwCl A ad l rxM107 rxCWAC rxPWAC rxPSWAC) : bx_ConP rxG rxNW rxAO PX Dg rxL X vwCl A ad l rxM167 rxC167 rxPSYD rxPSSYD :=
  rxQof (xa := xa) (Cn := rxCnE) (f := 30000) (j := 167) (tab := rxYSYD) (us := rxUSYD) hPX hsl hX ih rfl rxYcSYD rxISYD rxmSYD
    (fun S0 ws r I0 I ht0 ht as he he1 hX0 hI0 hP hs ha => by
      have e := he.symm.trans (show bx_ent0 rxNP rxC167.1 bx_I0 [] = some ([(0, 0), (0, 0), (0, 0), (0, 0), (0, 0), (0, 0), (0, 0), (0, 0), ((-2147483648), 2147483647), ((-2147483648), 2147483647)], [], [.inr (3, (0, 0)), .inr (0, (8, 0)), .inr (0, (9, 0))]) from rfl)
      cases e
      subst ha
      have h0 : r 0 = 0 := hs.1
      show rxISYD_0 S0 _ S0 (r 8) (r 9)
      refine ⟨rfl, ?_⟩
      simp only [List.map_cons, List.map_nil, bx_xv_ok h0]
      rfl)
    (fun S0 ws hP => rxuSYD (xa := xa) hPX hX hQWAC hP) (fun S0 ws hP => rxgCSYD hP) (fun S0 ws hP => rxgESYD hP)
noncomputable def rxCPCR : bx_Ct := ([(3, (1, 480, 0)), (0, (0, 0, 11))], none, [(12, 37), (1078, 0)], 1, [])
noncomputable def rxIPCR_0 (S0 : Nat → Int → Int) (ws : List Int) (S : Nat → Int → Int) (vs : Int) : Prop := S = S0 ∧ ws = [480, vs]
noncomputable def rxmPCR_0 (S0 : Nat → Int → Int) (ws : List Int) (S : Nat → Int → Int) (vs : Int) : Nat := 100000
noncomputable def rxzPCR_0 : rx_Z := ([(0, 0), (0, 0), (0, 0), (0, 0), (0, 0), (0, 0), (0, 0), (0, 0), (0, 11)], [], [], 0, 0, 0, [(0, .inr (3, (0, 480))), (1, .inr (0, (8, 0)))], [])
noncomputable def rxIPCR_1 (S0 : Nat → Int → Int) (ws : List Int) (S : Nat → Int → Int) (vs st k : Int) : Prop := ws = [480, vs] ∧ (∀ j : Int, S 482 j = S0 482 j) ∧ k ≤ S0 482 5 ∧ ((S 480 37 = -1 ∧ rjPs (rjSc (S0 482) (298 + 36 * vs)) (fun k => S0 482 (730 + k)) k.toNat = st ∧ st ≠ -1 ∧ (∀ m : Nat, (m : Int) < k → S 497 (m : Int) = rjPw (rjSc (S0 482) (298 + 36 * vs)) (fun k => S0 482 (730 + k)) m ∧ 0 ≤ rjPw (rjSc (S0 482) (298 + 36 * vs)) (fun k => S0 482 (730 + k)) m ∧ rjPw (rjSc (S0 482) (298 + 36 * vs)) (fun k => S0 482 (730 + k)) m ≤ 9)) ∨ (∃ j : Nat, S 480 37 = (j : Int) ∧ (j : Int) < S0 482 5 ∧ rjPw (rjSc (S0 482) (298 + 36 * vs)) (fun k => S0 482 (730 + k)) j = 100 ∧ rjPs (rjSc (S0 482) (298 + 36 * vs)) (fun k => S0 482 (730 + k)) (j + 1) = -1 ∧ (∀ m : Nat, (m : Int) < (j : Int) → S 497 (m : Int) = rjPw (rjSc (S0 482) (298 + 36 * vs)) (fun k => S0 482 (730 + k)) m ∧ 0 ≤ rjPw (rjSc (S0 482) (298 + 36 * vs)) (fun k => S0 482 (730 + k)) m ∧ rjPw (rjSc (S0 482) (298 + 36 * vs)) (fun k => S0 482 (730 + k)) m ≤ 9)))
noncomputable def rxmPCR_1 (S0 : Nat → Int → Int) (ws : List Int) (S : Nat → Int → Int) (vs st k : Int) : Nat := 20 * (100 - k).toNat + 19
noncomputable def rxzPCR_1 : rx_Z := ([(0, 0), (0, 0), (0, 0), (0, 0), (0, 0), (0, 0), (0, 0), (0, 0), (0, 11), ((-1), 5), (0, 12)], [], [], 0, 0, 9, [(0, .inr (3, (0, 480))), (1, .inr (0, (8, 0))), (2, .inr (0, (9, 0))), (3, .inr (0, (10, 0)))], [])
noncomputable def rxIPCR_2 (S0 : Nat → Int → Int) (ws : List Int) (S : Nat → Int → Int) (vs st k : Int) : Prop := ws = [480, vs] ∧ (∀ j : Int, S 482 j = S0 482 j) ∧ k ≤ S0 482 5 ∧ k < S0 482 5 ∧ rjPs (rjSc (S0 482) (298 + 36 * vs)) (fun k => S0 482 (730 + k)) k.toNat = st ∧ st ≠ -1 ∧ (∀ m : Nat, (m : Int) < k → S 497 (m : Int) = rjPw (rjSc (S0 482) (298 + 36 * vs)) (fun k => S0 482 (730 + k)) m ∧ 0 ≤ rjPw (rjSc (S0 482) (298 + 36 * vs)) (fun k => S0 482 (730 + k)) m ∧ rjPw (rjSc (S0 482) (298 + 36 * vs)) (fun k => S0 482 (730 + k)) m ≤ 9)
noncomputable def rxmPCR_2 (S0 : Nat → Int → Int) (ws : List Int) (S : Nat → Int → Int) (vs st k : Int) : Nat := 20 * (100 - k).toNat + 18
noncomputable def rxzPCR_2 : rx_Z := ([(0, 0), (0, 0), (0, 0), (0, 0), (0, 0), (0, 0), (0, 0), (0, 0), (0, 11), (0, 5), (0, 11)], [], [], 0, 0, 27, [(0, .inr (3, (0, 480))), (1, .inr (0, (8, 0))), (2, .inr (0, (9, 0))), (3, .inr (0, (10, 0)))], [])
noncomputable def rxIPCR_3 (S0 : Nat → Int → Int) (ws : List Int) (S : Nat → Int → Int) (vs st k ru kx : Int) : Prop := ws = [480, vs] ∧ (∀ j : Int, S 482 j = S0 482 j) ∧ k ≤ S0 482 5 ∧ k < S0 482 5 ∧ kx = k ∧ ru = (rjSc (S0 482) (298 + 36 * vs)) (6 * st + S0 482 (730 + k)) ∧ rjPs (rjSc (S0 482) (298 + 36 * vs)) (fun k => S0 482 (730 + k)) k.toNat = st ∧ st ≠ -1 ∧ (∀ m : Nat, (m : Int) < k → S 497 (m : Int) = rjPw (rjSc (S0 482) (298 + 36 * vs)) (fun k => S0 482 (730 + k)) m ∧ 0 ≤ rjPw (rjSc (S0 482) (298 + 36 * vs)) (fun k => S0 482 (730 + k)) m ∧ rjPw (rjSc (S0 482) (298 + 36 * vs)) (fun k => S0 482 (730 + k)) m ≤ 9)
noncomputable def rxmPCR_3 (S0 : Nat → Int → Int) (ws : List Int) (S : Nat → Int → Int) (vs st k ru kx : Int) : Nat := 20 * (100 - k).toNat + 8
noncomputable def rxzPCR_3 : rx_Z := ([(0, 0), (0, 0), (0, 0), (0, 0), (0, 0), (0, 0), (0, 0), (0, 0), (0, 11), (0, 5), (0, 11), ((-1), 59), (0, 11)], [], [], 0, 0, 56, [(0, .inr (3, (0, 480))), (1, .inr (0, (8, 0))), (2, .inr (0, (9, 0))), (3, .inr (0, (10, 0))), (4, .inr (0, (11, 0)))], [.inr (0, (11, 0)), .inr (0, (12, 0)), .inr (3, (0, 497))])
noncomputable def rxIPCR_4 (S0 : Nat → Int → Int) (ws : List Int) (S : Nat → Int → Int) (vs st k ru kx wo : Int) : Prop := ws = [480, vs] ∧ (∀ j : Int, S 482 j = S0 482 j) ∧ k ≤ S0 482 5 ∧ k < S0 482 5 ∧ kx = k ∧ ru = (rjSc (S0 482) (298 + 36 * vs)) (6 * st + S0 482 (730 + k)) ∧ rjPs (rjSc (S0 482) (298 + 36 * vs)) (fun k => S0 482 (730 + k)) k.toNat = st ∧ st ≠ -1 ∧ (∀ m : Nat, (m : Int) < k → S 497 (m : Int) = rjPw (rjSc (S0 482) (298 + 36 * vs)) (fun k => S0 482 (730 + k)) m ∧ 0 ≤ rjPw (rjSc (S0 482) (298 + 36 * vs)) (fun k => S0 482 (730 + k)) m ∧ rjPw (rjSc (S0 482) (298 + 36 * vs)) (fun k => S0 482 (730 + k)) m ≤ 9) ∧ wo = rjWo ru
noncomputable def rxmPCR_4 (S0 : Nat → Int → Int) (ws : List Int) (S : Nat → Int → Int) (vs st k ru kx wo : Int) : Nat := 20 * (100 - k).toNat + 7
noncomputable def rxzPCR_4 : rx_Z := ([(0, 0), (0, 0), (0, 0), (0, 0), (0, 0), (0, 0), (0, 0), (0, 0), (0, 11), (0, 5), (0, 11), ((-1), 59), (0, 11), ((-1), 9)], [], [], 0, 0, 59, [(0, .inr (3, (0, 480))), (1, .inr (0, (8, 0))), (2, .inr (0, (9, 0))), (3, .inr (0, (10, 0))), (4, .inr (0, (11, 0)))], [.inr (0, (13, 0)), .inr (0, (12, 0)), .inr (3, (0, 497))])
noncomputable def rxIPCR_5 (S0 : Nat → Int → Int) (ws : List Int) (S : Nat → Int → Int) (vs st k ru : Int) : Prop := ws = [480, vs] ∧ (∀ j : Int, S 482 j = S0 482 j) ∧ k ≤ S0 482 5 ∧ k < S0 482 5 ∧ ru = (rjSc (S0 482) (298 + 36 * vs)) (6 * st + S0 482 (730 + k)) ∧ rjPs (rjSc (S0 482) (298 + 36 * vs)) (fun k => S0 482 (730 + k)) k.toNat = st ∧ st ≠ -1 ∧ (∀ m : Nat, (m : Int) < k → S 497 (m : Int) = rjPw (rjSc (S0 482) (298 + 36 * vs)) (fun k => S0 482 (730 + k)) m ∧ 0 ≤ rjPw (rjSc (S0 482) (298 + 36 * vs)) (fun k => S0 482 (730 + k)) m ∧ rjPw (rjSc (S0 482) (298 + 36 * vs)) (fun k => S0 482 (730 + k)) m ≤ 9) ∧ S 497 k = rjWo ru
noncomputable def rxmPCR_5 (S0 : Nat → Int → Int) (ws : List Int) (S : Nat → Int → Int) (vs st k ru : Int) : Nat := 20 * (100 - k).toNat + 6
noncomputable def rxzPCR_5 : rx_Z := ([(0, 0), (0, 0), (0, 0), (0, 0), (0, 0), (0, 0), (0, 0), (0, 0), (0, 11), (0, 5), (0, 11), ((-1), 59)], [], [], 0, 0, 62, [(0, .inr (3, (0, 480))), (1, .inr (0, (8, 0))), (2, .inr (0, (9, 0))), (3, .inr (0, (10, 0))), (4, .inr (0, (11, 0)))], [.inr (0, (11, 0))])
noncomputable def rxIPCR_6 (S0 : Nat → Int → Int) (ws : List Int) (S : Nat → Int → Int) (vs st k ru nx : Int) : Prop := ws = [480, vs] ∧ (∀ j : Int, S 482 j = S0 482 j) ∧ k ≤ S0 482 5 ∧ k < S0 482 5 ∧ ru = (rjSc (S0 482) (298 + 36 * vs)) (6 * st + S0 482 (730 + k)) ∧ rjPs (rjSc (S0 482) (298 + 36 * vs)) (fun k => S0 482 (730 + k)) k.toNat = st ∧ st ≠ -1 ∧ (∀ m : Nat, (m : Int) < k → S 497 (m : Int) = rjPw (rjSc (S0 482) (298 + 36 * vs)) (fun k => S0 482 (730 + k)) m ∧ 0 ≤ rjPw (rjSc (S0 482) (298 + 36 * vs)) (fun k => S0 482 (730 + k)) m ∧ rjPw (rjSc (S0 482) (298 + 36 * vs)) (fun k => S0 482 (730 + k)) m ≤ 9) ∧ S 497 k = rjWo ru ∧ nx = rjNx ru
noncomputable def rxmPCR_6 (S0 : Nat → Int → Int) (ws : List Int) (S : Nat → Int → Int) (vs st k ru nx : Int) : Nat := 20 * (100 - k).toNat + 5
noncomputable def rxzPCR_6 : rx_Z := ([(0, 0), (0, 0), (0, 0), (0, 0), (0, 0), (0, 0), (0, 0), (0, 0), (0, 11), (0, 5), (0, 11), ((-1), 59), ((-1), 5)], [], [], 0, 0, 65, [(0, .inr (3, (0, 480))), (1, .inr (0, (8, 0))), (2, .inr (0, (9, 0))), (3, .inr (0, (10, 0))), (4, .inr (0, (11, 0)))], [.inr (0, (12, 0))])
noncomputable def rxoPCR_0_0 : bx_HO := (([(0, 0), (0, 0), (0, 0), (0, 0), (0, 0), (0, 0), (0, 0), (0, 0), (0, 11)], [], [(((0, 0), 1851192626986356804850488481487716824242412199817947559327956995000000), .inr (0, (0, (-1)))), (((0, 480), 37), .inr (0, (0, (-1))))], 0, 0, 9, [(3, .inr (0, (0, 0))), (2, .inr (0, (0, 0))), (0, .inr (3, (0, 480))), (1, .inr (0, (8, 0)))], []), [], [], [(0, 0), (0, 0), (0, 0), (0, 0), (0, 0), (0, 0), (0, 0), (0, 0), (8, 0), (0, 0), (0, 0)], 1)
noncomputable def rxoPCR_1_0 : bx_HO := (([(0, 0), (0, 0), (0, 0), (0, 0), (0, 0), (0, 0), (0, 0), (0, 0), (0, 11), ((-1), 5), (0, 11), (1, 12), ((-1), (-1))], [(0, (10, 0), (11, 0))], [(((0, 0), 1851192626986356804850488481487716824242412199817947559327956992000000), .inr (0, (12, 0))), (((0, 480), 37), .inr (0, (12, 0))), (((0, 0), 1851192626986356798427873864310897359480125337295219445606776832000000), .inr (0, (11, 0))), (((0, 482), 5), .inr (0, (11, 0))), (((0, 480), 3), .inr (3, (0, 482)))], 0, 0, 27, [(0, .inr (3, (0, 480))), (1, .inr (0, (8, 0))), (2, .inr (0, (9, 0))), (3, .inr (0, (10, 0)))], []), [(9, 0, 5)], [], [(0, 0), (0, 0), (0, 0), (0, 0), (0, 0), (0, 0), (0, 0), (0, 0), (8, 0), (9, 0), (10, 0)], 2)
noncomputable def rxePCR_1_0 : rx_End × List (Nat × Int × Int) := (([(0, 0), (0, 0), (0, 0), (0, 0), (0, 0), (0, 0), (0, 0), (0, 0), (0, 11), ((-1), 5), (0, 11), (1, 12), (0, 11)], [(3, (12, 0), (0, (-1))), (0, (10, 0), (11, 0))], [(((0, 0), 1851192626986356804850488481487716824242412199817947559327956992000000), .inr (0, (12, 0))), (((0, 480), 37), .inr (0, (12, 0))), (((0, 0), 1851192626986356798427873864310897359480125337295219445606776832000000), .inr (0, (11, 0))), (((0, 482), 5), .inr (0, (11, 0))), (((0, 480), 3), .inr (3, (0, 482)))], none), [])
noncomputable def rxePCR_1_1 : rx_End × List (Nat × Int × Int) := (([(0, 0), (0, 0), (0, 0), (0, 0), (0, 0), (0, 0), (0, 0), (0, 0), (0, 11), ((-1), 5), (0, 12), (0, 12)], [(1, (11, 0), (10, 0))], [(((0, 0), 1851192626986356798427873864310897359480125337295219445606776832000000), .inr (0, (11, 0))), (((0, 482), 5), .inr (0, (11, 0))), (((0, 480), 3), .inr (3, (0, 482)))], none), [])
noncomputable def rxoPCR_2_0 : bx_HO := (([(0, 0), (0, 0), (0, 0), (0, 0), (0, 0), (0, 0), (0, 0), (0, 0), (0, 11), (0, 5), (0, 11), (0, 30), (0, 5), (0, 35), (0, 396), (298, 729), ((-1), 59)], [(604462909807314587353101000000, (15, 0), (14, 298)), (40, (14, 0), (8, 0)), (604462909807314587353100000000, (13, 0), (11, 0)), (10, (11, 0), (9, 0))], [(((0, 480), 36), .inr (3, (0, 497))), (((0, 0), 1851192626986356797424386268496553644803585570598046466546204672000000), .inr (0, (16, 0))), (((0, 0), 1851192626986356943940266910136236242462398770040447131268022272000000), .inr (0, (12, 0))), (((0, 480), 3), .inr (3, (0, 482)))], 0, 0, 56, [(4, .inr (0, (16, 0))), (0, .inr (3, (0, 480))), (1, .inr (0, (8, 0))), (2, .inr (0, (9, 0))), (3, .inr (0, (10, 0)))], [.inr (0, (16, 0)), .inr (0, (10, 0)), .inr (3, (0, 497))]), [], [], [(0, 0), (0, 0), (0, 0), (0, 0), (0, 0), (0, 0), (0, 0), (0, 0), (8, 0), (9, 0), (10, 0), (16, 0), (10, 0)], 3)
noncomputable def rxoPCR_4_0 : bx_HO := (([(0, 0), (0, 0), (0, 0), (0, 0), (0, 0), (0, 0), (0, 0), (0, 0), (0, 11), (0, 5), (0, 11), ((-1), 59), (0, 11), ((-1), 9)], [], [(((0, 0), 1851192626986356797424377080872646779465072059483645808813342723000000), .inr (0, (13, 0)))], 0, 0, 62, [(0, .inr (3, (0, 480))), (1, .inr (0, (8, 0))), (2, .inr (0, (9, 0))), (3, .inr (0, (10, 0))), (4, .inr (0, (11, 0)))], [.inr (0, (11, 0))]), [], [], [(0, 0), (0, 0), (0, 0), (0, 0), (0, 0), (0, 0), (0, 0), (0, 0), (8, 0), (9, 0), (10, 0), (11, 0)], 5)
noncomputable def rxoPCR_6_0 : bx_HO := (([(0, 0), (0, 0), (0, 0), (0, 0), (0, 0), (0, 0), (0, 0), (0, 0), (0, 11), (0, 5), (0, 11), ((-1), (-1)), ((-1), 5)], [], [(((0, 0), 1851192626986356804850488481487716824242412199817947559327956995000000), .inr (0, (10, 0))), (((0, 480), 37), .inr (0, (10, 0)))], 0, 0, 9, [(3, .inr (0, (10, 1))), (2, .inr (0, (12, 0))), (0, .inr (3, (0, 480))), (1, .inr (0, (8, 0))), (4, .inr (0, (11, 0)))], []), [], [], [(0, 0), (0, 0), (0, 0), (0, 0), (0, 0), (0, 0), (0, 0), (0, 0), (8, 0), (12, 0), (10, 1)], 1)
noncomputable def rxoPCR_6_1 : bx_HO := (([(0, 0), (0, 0), (0, 0), (0, 0), (0, 0), (0, 0), (0, 0), (0, 0), (0, 11), (0, 5), (0, 11), (0, 59), ((-1), 5)], [(3, (11, 0), (0, (-1)))], [(((0, 0), 1851192626986356804850488481487716824242412199817947559327956995000000), .inr (0, (0, (-1)))), (((0, 480), 37), .inr (0, (0, (-1))))], 0, 0, 9, [(3, .inr (0, (10, 1))), (2, .inr (0, (12, 0))), (0, .inr (3, (0, 480))), (1, .inr (0, (8, 0))), (4, .inr (0, (11, 0)))], []), [], [], [(0, 0), (0, 0), (0, 0), (0, 0), (0, 0), (0, 0), (0, 0), (0, 0), (8, 0), (12, 0), (10, 1)], 1)
noncomputable def rxYPCR : List bx_HE := [(rxzPCR_0, [rxoPCR_0_0], []), (rxzPCR_1, [rxoPCR_1_0], [rxePCR_1_0, rxePCR_1_1]), (rxzPCR_2, [rxoPCR_2_0], []), (rxzPCR_3, [], []), (rxzPCR_4, [rxoPCR_4_0], []), (rxzPCR_5, [], []), (rxzPCR_6, [rxoPCR_6_0, rxoPCR_6_1], [])]
noncomputable def rxUPCR (q : bx_HE) : Bool := Nat.beq (rx_zpc q.1) 56 || Nat.beq (rx_zpc q.1) 62
noncomputable def rxYBPCR : bx_B := (rxV, rxNP, rxDmf, bx_mdH rxCPCR.2.2.1)
set_option maxRecDepth 100000 in
theorem rxYcPCR : bx_chkH rxYBPCR rxM301 rxCPCR rxYPCR (rxUPCR, fun cut z => rx_ex2 (rxCT rxYBPCR rxCnE) cut 30000 rxCPCR.2.2.2.1 301 z) = true := by decide +kernel
noncomputable def rxIPCR (S0 : Nat → Int → Int) (ws : List Int) (i : Nat) : bx_SP := fun S r => match i with | 0 => rxIPCR_0 S0 ws S (r 8) | 1 => rxIPCR_1 S0 ws S (r 8) (r 9) (r 10) | 2 => rxIPCR_2 S0 ws S (r 8) (r 9) (r 10) | 3 => rxIPCR_3 S0 ws S (r 8) (r 9) (r 10) (r 11) (r 12) | 4 => rxIPCR_4 S0 ws S (r 8) (r 9) (r 10) (r 11) (r 12) (r 13) | 5 => rxIPCR_5 S0 ws S (r 8) (r 9) (r 10) (r 11) | 6 => rxIPCR_6 S0 ws S (r 8) (r 9) (r 10) (r 11) (r 12) | _ => False
noncomputable def rxmPCR (S0 : Nat → Int → Int) (ws : List Int) (i : Nat) (S : Nat → Int → Int) (r : Nat → Int) : Nat := match i with | 0 => rxmPCR_0 S0 ws S (r 8) | 1 => rxmPCR_1 S0 ws S (r 8) (r 9) (r 10) | 2 => rxmPCR_2 S0 ws S (r 8) (r 9) (r 10) | 3 => rxmPCR_3 S0 ws S (r 8) (r 9) (r 10) (r 11) (r 12) | 4 => rxmPCR_4 S0 ws S (r 8) (r 9) (r 10) (r 11) (r 12) (r 13) | 5 => rxmPCR_5 S0 ws S (r 8) (r 9) (r 10) (r 11) | 6 => rxmPCR_6 S0 ws S (r 8) (r 9) (r 10) (r 11) (r 12) | _ => 0
noncomputable def rxPPCR (S0 : Nat → Int → Int) (ws : List Int) : Prop := True
noncomputable def rxPSPCR (S0 : Nat → Int → Int) (ws : List Int) (S : Nat → Int → Int) (w : Option Int) : Prop := w = none ∧ ∃ vs : Int, ws = [480, vs] ∧ (∀ j : Int, S 482 j = S0 482 j) ∧ ((S 480 37 = -1 ∧ (∀ m : Nat, (m : Int) < S0 482 5 → S 497 (m : Int) = rjPw (rjSc (S0 482) (298 + 36 * vs)) (fun k => S0 482 (730 + k)) m ∧ 0 ≤ rjPw (rjSc (S0 482) (298 + 36 * vs)) (fun k => S0 482 (730 + k)) m ∧ rjPw (rjSc (S0 482) (298 + 36 * vs)) (fun k => S0 482 (730 + k)) m ≤ 9)) ∨ (∃ j : Nat, S 480 37 = (j : Int) ∧ (j : Int) < S0 482 5 ∧ rjPw (rjSc (S0 482) (298 + 36 * vs)) (fun k => S0 482 (730 + k)) j = 100 ∧ rjPs (rjSc (S0 482) (298 + 36 * vs)) (fun k => S0 482 (730 + k)) (j + 1) = -1 ∧ (∀ m : Nat, (m : Int) < (j : Int) → S 497 (m : Int) = rjPw (rjSc (S0 482) (298 + 36 * vs)) (fun k => S0 482 (730 + k)) m ∧ 0 ≤ rjPw (rjSc (S0 482) (298 + 36 * vs)) (fun k => S0 482 (730 + k)) m ∧ rjPw (rjSc (S0 482) (298 + 36 * vs)) (fun k => S0 482 (730 + k)) m ≤ 9)))
theorem rxkPCR_3 {S0 : Nat → Int → Int} {ws : List Int} {S : Nat → Int → Int} {vs st k ru kx : Int} (hP : rxPPCR S0 ws) (hin : bx_same rxL (bx_mdl rxCPCR.2.2.1) S0 S) (I0 : bx_Inv rxL S) (hinv : rxIPCR_3 S0 ws S vs st k ru kx) (l8 : 0 ≤ vs) (u8 : vs ≤ 11) (l9 : 0 ≤ st) (u9 : st ≤ 5) (l10 : 0 ≤ k) (u10 : k ≤ 11) (l11 : (-1) ≤ ru) (u11 : ru ≤ 59) (l12 : 0 ≤ kx) (u12 : kx ≤ 11) : rxPWOK S [ru] ∧ ∀ (S_p : Nat → Int → Int) (wo : Int), (-1) ≤ wo → wo ≤ 9 → rxPSWOK S [ru] S_p (some wo) → bx_Inv rxL S_p → bx_same rxL (bx_mdl rxCWOK.2.2.1) S S_p → rxIPCR_4 S0 ws S_p vs st k ru kx wo ∧ rxmPCR_4 S0 ws S_p vs st k ru kx wo < rxmPCR_3 S0 ws S vs st k ru kx := by
  obtain ⟨hw, hf, hk5, hk, hkx, hru, hx⟩ := hinv
  refine ⟨trivial, fun S_p wo _ _ hq _ hsm => ⟨?_, by unfold rxmPCR_3 rxmPCR_4; omega⟩⟩
  obtain ⟨hS, r, hw3, hr⟩ := hq
  subst hS
  have k1 : ru = r := Option.some.inj (congrArg (fun l : List Int => l[0]?) hw3)
  subst k1
  obtain ⟨h2, h3, h4⟩ := hx
  exact ⟨hw, hf, hk5, hk, hkx, hru, h2, h3, h4, Option.some.inj hr⟩
theorem rxsPCR_3 {X : (Nat → Int → Int) → Prop} {S0 : Nat → Int → Int} {ws : List Int} (hP : rxPPCR S0 ws) : rx_obK X S0 rxCPCR.2.2.1 rxCWOK.2.2.1 (rxIPCR S0 ws) (rxmPCR S0 ws) 3 4 rxzPCR_3 rxzPCR_4 [.inr (0, (11, 0))] (some 13) rxPWOK rxPSWOK := by
  intro S r hinv hXS I0 hin hs_ hf_
  have b_ := bx_bds_sat hs_
  have f_ := bx_fcl_ok hs_.1 hf_
  obtain ⟨⟨l8, u8⟩, ⟨l9, u9⟩, ⟨l10, u10⟩, ⟨l11, u11⟩, ⟨l12, u12⟩, -⟩ := b_
  have g := rxkPCR_3 hP hin I0 hinv l8 u8 l9 u9 l10 u10 l11 u11 l12 u12
  have ea : List.map (bx_num r) [.inr (0, (11, 0))] = [(r 11)] := by
    simp only [List.map_cons, List.map_nil, bx_xv_ok hs_.1]
    rfl
  rw [ea]
  refine ⟨g.1, fun S_p w r_p hPS hX_p I1 hsm hr hw hs_p => ?_⟩
  have hw := hw _ rfl
  subst hw
  have b_p := hs_p.2.2 13 _ _ rfl
  have g2 := g.2 S_p (r_p 13) b_p.1 b_p.2 hPS I1 hsm
  show rxIPCR_4 S0 ws S_p (r_p 8) (r_p 9) (r_p 10) (r_p 11) (r_p 12) (r_p 13) ∧ rxmPCR_4 S0 ws S_p (r_p 8) (r_p 9) (r_p 10) (r_p 11) (r_p 12) (r_p 13) < _
  rw [hr 8 (by decide), hr 9 (by decide), hr 10 (by decide), hr 11 (by decide), hr 12 (by decide)]
  exact g2
theorem rxkPCR_5 {S0 : Nat → Int → Int} {ws : List Int} {S : Nat → Int → Int} {vs st k ru : Int} (hP : rxPPCR S0 ws) (hin : bx_same rxL (bx_mdl rxCPCR.2.2.1) S0 S) (I0 : bx_Inv rxL S) (hinv : rxIPCR_5 S0 ws S vs st k ru) (l8 : 0 ≤ vs) (u8 : vs ≤ 11) (l9 : 0 ≤ st) (u9 : st ≤ 5) (l10 : 0 ≤ k) (u10 : k ≤ 11) (l11 : (-1) ≤ ru) (u11 : ru ≤ 59) : rxPNOK S [ru] ∧ ∀ (S_p : Nat → Int → Int) (nx : Int), (-1) ≤ nx → nx ≤ 5 → rxPSNOK S [ru] S_p (some nx) → bx_Inv rxL S_p → bx_same rxL (bx_mdl rxCNOK.2.2.1) S S_p → rxIPCR_6 S0 ws S_p vs st k ru nx ∧ rxmPCR_6 S0 ws S_p vs st k ru nx < rxmPCR_5 S0 ws S vs st k ru := by
  obtain ⟨hw, hf, hk5, hk, hru, h2, h3, h4, h5⟩ := hinv
  refine ⟨trivial, fun S_p nx _ _ hq _ hsm => ⟨?_, by unfold rxmPCR_5 rxmPCR_6; omega⟩⟩
  obtain ⟨hS, r, hw3, hr⟩ := hq
  subst hS
  have k1 : ru = r := Option.some.inj (congrArg (fun l : List Int => l[0]?) hw3)
  subst k1
  exact ⟨hw, hf, hk5, hk, hru, h2, h3, h4, h5, Option.some.inj hr⟩
theorem rxsPCR_5 {X : (Nat → Int → Int) → Prop} {S0 : Nat → Int → Int} {ws : List Int} (hP : rxPPCR S0 ws) : rx_obK X S0 rxCPCR.2.2.1 rxCNOK.2.2.1 (rxIPCR S0 ws) (rxmPCR S0 ws) 5 6 rxzPCR_5 rxzPCR_6 [.inr (0, (11, 0))] (some 12) rxPNOK rxPSNOK := by
  intro S r hinv hXS I0 hin hs_ hf_
  have b_ := bx_bds_sat hs_
  have f_ := bx_fcl_ok hs_.1 hf_
  obtain ⟨⟨l8, u8⟩, ⟨l9, u9⟩, ⟨l10, u10⟩, ⟨l11, u11⟩, -⟩ := b_
  have g := rxkPCR_5 hP hin I0 hinv l8 u8 l9 u9 l10 u10 l11 u11
  have ea : List.map (bx_num r) [.inr (0, (11, 0))] = [(r 11)] := by
    simp only [List.map_cons, List.map_nil, bx_xv_ok hs_.1]
    rfl
  rw [ea]
  refine ⟨g.1, fun S_p w r_p hPS hX_p I1 hsm hr hw hs_p => ?_⟩
  have hw := hw _ rfl
  subst hw
  have b_p := hs_p.2.2 12 _ _ rfl
  have g2 := g.2 S_p (r_p 12) b_p.1 b_p.2 hPS I1 hsm
  show rxIPCR_6 S0 ws S_p (r_p 8) (r_p 9) (r_p 10) (r_p 11) (r_p 12) ∧ rxmPCR_6 S0 ws S_p (r_p 8) (r_p 9) (r_p 10) (r_p 11) (r_p 12) < _
  rw [hr 8 (by decide), hr 9 (by decide), hr 10 (by decide), hr 11 (by decide)]
  exact g2
theorem rxcPCR_0_0 {S0 : Nat → Int → Int} {ws : List Int} {S : Nat → Int → Int} {vs : Int} (hP : rxPPCR S0 ws) (hin : bx_same rxL (bx_mdl rxCPCR.2.2.1) S0 S) (I0 : bx_Inv rxL S) (hinv : rxIPCR_0 S0 ws S vs) (l8 : 0 ≤ vs) (u8 : vs ≤ 11) : (True) ∧ (True) ∧ rxIPCR_1 S0 ws (bx_up S 480 37 ((-1))) vs 0 0 ∧ rxmPCR_1 S0 ws (bx_up S 480 37 ((-1))) vs 0 0 < rxmPCR_0 S0 ws S vs := by
  obtain ⟨rfl, hw⟩ := hinv
  have b5 : 0 ≤ S 482 5 ∧ S 482 5 ≤ 12 := I0 482 5 (by decide) (by decide)
  exact ⟨trivial, trivial, ⟨hw, fun j => bx_up_ne (by omega), b5.1, Or.inl ⟨bx_up_at, rfl, by decide, fun j hj => by omega⟩⟩, by unfold rxmPCR_0 rxmPCR_1; omega⟩
theorem rxgPCR_0_0 {X : (Nat → Int → Int) → Prop} {S0 : Nat → Int → Int} {ws : List Int} (hP : rxPPCR S0 ws) : bx_obC rxL X S0 rxCPCR.2.2.1 (rxIPCR S0 ws) (rxmPCR S0 ws) 0 rxzPCR_0 rxoPCR_0_0 := by
  intro S S_p r r_p hinv hX hin hsm_ hseg
  obtain ⟨I0, I1, h0_, hr_, b_, f_, d_⟩ := bx_cl (evs := [(1, (0, 480), (0, 37), .inr (0, (0, (-1))))]) (fvs := []) hseg (by decide +kernel) (by decide +kernel)
  have hinv : rxIPCR_0 S0 ws S (r 8) := hinv
  rw [← hr_ 8 (by decide)] at hinv
  obtain ⟨⟨l8, u8⟩, -⟩ := b_
  obtain ⟨T0, w_, w0⟩ := d_
  subst w0
  subst w_
  have g := rxcPCR_0_0 hP hin I0 hinv l8 u8
  refine ⟨bx_narP_ok (l := []) g.1, bx_nfP_ok h0_ (fvs := []) (by decide +kernel) g.2.1, ?_, ?_⟩
  · show rxIPCR_1 S0 ws (bx_up T0 480 (37) ((-1))) (bx_val [(0, 0), (0, 0), (0, 0), (0, 0), (0, 0), (0, 0), (0, 0), (0, 0), (8, 0), (0, 0), (0, 0)] r_p 8) (bx_val [(0, 0), (0, 0), (0, 0), (0, 0), (0, 0), (0, 0), (0, 0), (0, 0), (8, 0), (0, 0), (0, 0)] r_p 9) (bx_val [(0, 0), (0, 0), (0, 0), (0, 0), (0, 0), (0, 0), (0, 0), (0, 0), (8, 0), (0, 0), (0, 0)] r_p 10)
    rw [bx_val_x (n := 8) (e := (8, 0)) h0_ rfl, bx_val_x (n := 9) (e := (0, 0)) h0_ rfl, bx_val_x (n := 10) (e := (0, 0)) h0_ rfl]
    exact g.2.2.1
  · show rxmPCR_1 S0 ws (bx_up T0 480 (37) ((-1))) (bx_val [(0, 0), (0, 0), (0, 0), (0, 0), (0, 0), (0, 0), (0, 0), (0, 0), (8, 0), (0, 0), (0, 0)] r_p 8) (bx_val [(0, 0), (0, 0), (0, 0), (0, 0), (0, 0), (0, 0), (0, 0), (0, 0), (8, 0), (0, 0), (0, 0)] r_p 9) (bx_val [(0, 0), (0, 0), (0, 0), (0, 0), (0, 0), (0, 0), (0, 0), (0, 0), (8, 0), (0, 0), (0, 0)] r_p 10) < rxmPCR_0 S0 ws T0 (r 8)
    rw [bx_val_x (n := 8) (e := (8, 0)) h0_ rfl, bx_val_x (n := 9) (e := (0, 0)) h0_ rfl, bx_val_x (n := 10) (e := (0, 0)) h0_ rfl, ← hr_ 8 (by decide)]
    exact g.2.2.2
theorem rxcPCR_1_0 {S0 : Nat → Int → Int} {ws : List Int} {S : Nat → Int → Int} {vs st k x11 x12 : Int} (hP : rxPPCR S0 ws) (hin : bx_same rxL (bx_mdl rxCPCR.2.2.1) S0 S) (I0 : bx_Inv rxL S) (hinv : rxIPCR_1 S0 ws S vs st k) (l8 : 0 ≤ vs) (u8 : vs ≤ 11) (l9 : (-1) ≤ st) (u9 : st ≤ 5) (l10 : 0 ≤ k) (u10 : k ≤ 11) (l11 : 1 ≤ x11) (u11 : x11 ≤ 12) (l12 : (-1) ≤ x12) (u12 : x12 ≤ (-1)) (f0 : k < x11) (e1 : S 482 5 = x11) (e0 : S 480 37 = x12) : ((0 ≤ st ∧ st ≤ 5) ∧ True) ∧ (True) ∧ rxIPCR_2 S0 ws S vs st k ∧ rxmPCR_2 S0 ws S vs st k < rxmPCR_1 S0 ws S vs st k := by
  obtain ⟨hw, hf, hk5, hx⟩ := hinv
  have q5 : S0 482 5 = x11 := (hf 5).symm.trans e1
  rcases hx with ⟨h1, h2, h3, h4⟩ | ⟨j, h1, h2, -⟩
  · exact ⟨⟨⟨by omega, by omega⟩, trivial⟩, trivial, ⟨hw, hf, hk5, by omega, h2, h3, h4⟩, by unfold rxmPCR_1 rxmPCR_2; omega⟩
  · exfalso
    omega
theorem rxgPCR_1_0 {X : (Nat → Int → Int) → Prop} {S0 : Nat → Int → Int} {ws : List Int} (hP : rxPPCR S0 ws) : bx_obC rxL X S0 rxCPCR.2.2.1 (rxIPCR S0 ws) (rxmPCR S0 ws) 1 rxzPCR_1 rxoPCR_1_0 := by
  intro S S_p r r_p hinv hX hin hsm_ hseg
  obtain ⟨I0, I1, h0_, hr_, b_, f_, d_⟩ := bx_cl (evs := [(0, (0, 480), (0, 37), .inr (0, (12, 0))), (0, (0, 482), (0, 5), .inr (0, (11, 0)))]) (fvs := [(0, (10, 0), (11, 0), (0, 0))]) hseg (by decide +kernel) (by decide +kernel)
  have hinv : rxIPCR_1 S0 ws S (r 8) (r 9) (r 10) := hinv
  rw [← hr_ 8 (by decide), ← hr_ 9 (by decide), ← hr_ 10 (by decide)] at hinv
  obtain ⟨⟨l8, u8⟩, ⟨l9, u9⟩, ⟨l10, u10⟩, ⟨l11, u11⟩, ⟨l12, u12⟩, -⟩ := b_
  obtain ⟨f0, -⟩ := f_
  obtain ⟨e0, ⟨e1, w_⟩⟩ := d_
  subst w_
  have g := rxcPCR_1_0 hP hin I0 hinv l8 u8 l9 u9 l10 u10 l11 u11 l12 u12 f0 e1 e0
  refine ⟨bx_narP_ok (l := [(9, 0, 5)]) g.1, bx_nfP_ok h0_ (fvs := []) (by decide +kernel) g.2.1, ?_, ?_⟩
  · show rxIPCR_2 S0 ws S_p (bx_val [(0, 0), (0, 0), (0, 0), (0, 0), (0, 0), (0, 0), (0, 0), (0, 0), (8, 0), (9, 0), (10, 0)] r_p 8) (bx_val [(0, 0), (0, 0), (0, 0), (0, 0), (0, 0), (0, 0), (0, 0), (0, 0), (8, 0), (9, 0), (10, 0)] r_p 9) (bx_val [(0, 0), (0, 0), (0, 0), (0, 0), (0, 0), (0, 0), (0, 0), (0, 0), (8, 0), (9, 0), (10, 0)] r_p 10)
    rw [bx_val_x (n := 8) (e := (8, 0)) h0_ rfl, bx_val_x (n := 9) (e := (9, 0)) h0_ rfl, bx_val_x (n := 10) (e := (10, 0)) h0_ rfl]
    exact g.2.2.1
  · show rxmPCR_2 S0 ws S_p (bx_val [(0, 0), (0, 0), (0, 0), (0, 0), (0, 0), (0, 0), (0, 0), (0, 0), (8, 0), (9, 0), (10, 0)] r_p 8) (bx_val [(0, 0), (0, 0), (0, 0), (0, 0), (0, 0), (0, 0), (0, 0), (0, 0), (8, 0), (9, 0), (10, 0)] r_p 9) (bx_val [(0, 0), (0, 0), (0, 0), (0, 0), (0, 0), (0, 0), (0, 0), (0, 0), (8, 0), (9, 0), (10, 0)] r_p 10) < rxmPCR_1 S0 ws S_p (r 8) (r 9) (r 10)
    rw [bx_val_x (n := 8) (e := (8, 0)) h0_ rfl, bx_val_x (n := 9) (e := (9, 0)) h0_ rfl, bx_val_x (n := 10) (e := (10, 0)) h0_ rfl, ← hr_ 8 (by decide), ← hr_ 9 (by decide), ← hr_ 10 (by decide)]
    exact g.2.2.2
theorem rxdPCR_1_0 {S0 : Nat → Int → Int} {ws : List Int} {S : Nat → Int → Int} {vs st k x11 x12 : Int} (hP : rxPPCR S0 ws) (hin : bx_same rxL (bx_mdl rxCPCR.2.2.1) S0 S) (hin2 : bx_same rxL (bx_mdl rxCPCR.2.2.1) S S) (I0 : bx_Inv rxL S) (I1 : bx_Inv rxL S) (hinv : rxIPCR_1 S0 ws S vs st k) (l8 : 0 ≤ vs) (u8 : vs ≤ 11) (l9 : (-1) ≤ st) (u9 : st ≤ 5) (l10 : 0 ≤ k) (u10 : k ≤ 11) (l11 : 1 ≤ x11) (u11 : x11 ≤ 12) (l12 : 0 ≤ x12) (u12 : x12 ≤ 11) (f0 : x12 ≠ (-1)) (f1 : k < x11) (e1 : S 482 5 = x11) (e0 : S 480 37 = x12) : (True) ∧ rxPSPCR S0 ws S none := by
  obtain ⟨hw, hf, hk5, hx⟩ := hinv
  have q5 : S0 482 5 = x11 := (hf 5).symm.trans e1
  rcases hx with ⟨h1, h2, h3, h4⟩ | h
  · exfalso
    omega
  · exact ⟨trivial, rfl, vs, hw, hf, Or.inr h⟩
theorem rxfPCR_1_0 {X : (Nat → Int → Int) → Prop} {S0 : Nat → Int → Int} {ws : List Int} (hP : rxPPCR S0 ws) : bx_obE rxL X S0 rxCPCR.2.2.1 (rxIPCR S0 ws) (rxPSPCR S0 ws) 1 rxzPCR_1 rxePCR_1_0 := by
  intro S S_p r r_p hinv hX hin hsm_ hseg
  obtain ⟨I0, I1, h0_, hr_, b_, f_, d_⟩ := bx_cl (evs := [(0, (0, 480), (0, 37), .inr (0, (12, 0))), (0, (0, 482), (0, 5), .inr (0, (11, 0)))]) (fvs := [(3, (12, 0), (0, (-1)), (0, 0)), (0, (10, 0), (11, 0), (0, 0))]) hseg (by decide +kernel) (by decide +kernel)
  have hinv : rxIPCR_1 S0 ws S (r 8) (r 9) (r 10) := hinv
  rw [← hr_ 8 (by decide), ← hr_ 9 (by decide), ← hr_ 10 (by decide)] at hinv
  obtain ⟨⟨l8, u8⟩, ⟨l9, u9⟩, ⟨l10, u10⟩, ⟨l11, u11⟩, ⟨l12, u12⟩, -⟩ := b_
  obtain ⟨f0, f1, -⟩ := f_
  obtain ⟨e0, ⟨e1, w_⟩⟩ := d_
  subst w_
  have g := rxdPCR_1_0 hP hin hsm_ I0 I1 hinv l8 u8 l9 u9 l10 u10 l11 u11 l12 u12 f0 f1 e1 e0
  refine ⟨bx_narP_ok (l := []) g.1, ?_⟩
  exact g.2
theorem rxdPCR_1_1 {S0 : Nat → Int → Int} {ws : List Int} {S : Nat → Int → Int} {vs st k x11 : Int} (hP : rxPPCR S0 ws) (hin : bx_same rxL (bx_mdl rxCPCR.2.2.1) S0 S) (hin2 : bx_same rxL (bx_mdl rxCPCR.2.2.1) S S) (I0 : bx_Inv rxL S) (I1 : bx_Inv rxL S) (hinv : rxIPCR_1 S0 ws S vs st k) (l8 : 0 ≤ vs) (u8 : vs ≤ 11) (l9 : (-1) ≤ st) (u9 : st ≤ 5) (l10 : 0 ≤ k) (u10 : k ≤ 12) (l11 : 0 ≤ x11) (u11 : x11 ≤ 12) (f0 : x11 ≤ k) (e0 : S 482 5 = x11) : (True) ∧ rxPSPCR S0 ws S none := by
  obtain ⟨hw, hf, hk5, hx⟩ := hinv
  have q5 : S0 482 5 = x11 := (hf 5).symm.trans e0
  rcases hx with ⟨h1, h2, h3, h4⟩ | h
  · exact ⟨trivial, rfl, vs, hw, hf, Or.inl ⟨h1, fun j hj => h4 j (by omega)⟩⟩
  · exact ⟨trivial, rfl, vs, hw, hf, Or.inr h⟩
theorem rxfPCR_1_1 {X : (Nat → Int → Int) → Prop} {S0 : Nat → Int → Int} {ws : List Int} (hP : rxPPCR S0 ws) : bx_obE rxL X S0 rxCPCR.2.2.1 (rxIPCR S0 ws) (rxPSPCR S0 ws) 1 rxzPCR_1 rxePCR_1_1 := by
  intro S S_p r r_p hinv hX hin hsm_ hseg
  obtain ⟨I0, I1, h0_, hr_, b_, f_, d_⟩ := bx_cl (evs := [(0, (0, 482), (0, 5), .inr (0, (11, 0)))]) (fvs := [(1, (11, 0), (10, 0), (0, 0))]) hseg (by decide +kernel) (by decide +kernel)
  have hinv : rxIPCR_1 S0 ws S (r 8) (r 9) (r 10) := hinv
  rw [← hr_ 8 (by decide), ← hr_ 9 (by decide), ← hr_ 10 (by decide)] at hinv
  obtain ⟨⟨l8, u8⟩, ⟨l9, u9⟩, ⟨l10, u10⟩, ⟨l11, u11⟩, -⟩ := b_
  obtain ⟨f0, -⟩ := f_
  obtain ⟨e0, w_⟩ := d_
  subst w_
  have g := rxdPCR_1_1 hP hin hsm_ I0 I1 hinv l8 u8 l9 u9 l10 u10 l11 u11 f0 e0
  refine ⟨bx_narP_ok (l := []) g.1, ?_⟩
  exact g.2
theorem rxcPCR_2_0 {S0 : Nat → Int → Int} {ws : List Int} {S : Nat → Int → Int} {vs st k x11 x12 x13 x14 x15 x16 : Int} (hP : rxPPCR S0 ws) (hin : bx_same rxL (bx_mdl rxCPCR.2.2.1) S0 S) (I0 : bx_Inv rxL S) (hinv : rxIPCR_2 S0 ws S vs st k) (l8 : 0 ≤ vs) (u8 : vs ≤ 11) (l9 : 0 ≤ st) (u9 : st ≤ 5) (l10 : 0 ≤ k) (u10 : k ≤ 11) (l11 : 0 ≤ x11) (u11 : x11 ≤ 30) (l12 : 0 ≤ x12) (u12 : x12 ≤ 5) (l13 : 0 ≤ x13) (u13 : x13 ≤ 35) (l14 : 0 ≤ x14) (u14 : x14 ≤ 396) (l15 : 298 ≤ x15) (u15 : x15 ≤ 729) (l16 : (-1) ≤ x16) (u16 : x16 ≤ 59) (f0 : x15 = x14 + 298 + x13) (f1 : x14 = 36 * (vs)) (f2 : x13 = x11 + x12) (f3 : x11 = 6 * (st)) (e1 : S 482 (k + 730) = x12) (e0 : S 482 x15 = x16) : (True) ∧ (True) ∧ rxIPCR_3 S0 ws S vs st k x16 k ∧ rxmPCR_3 S0 ws S vs st k x16 k < rxmPCR_2 S0 ws S vs st k := by
  obtain ⟨hw, hf, hk5, hk, h2, h3, h4⟩ := hinv
  have qc : S0 482 (730 + k) = x12 := by
    rw [← hf, show 730 + k = k + 730 by omega]
    exact e1
  have qr : (rjSc (S0 482) (298 + 36 * vs)) (6 * st + S0 482 (730 + k)) = x16 := by
    rw [rjSc_in (by omega) (by omega), ← hf, show 298 + 36 * vs + (6 * st + S0 482 (730 + k)) = x15 by omega]
    exact e0
  exact ⟨trivial, trivial, ⟨hw, hf, hk5, hk, by omega, qr.symm, h2, h3, h4⟩, by unfold rxmPCR_2 rxmPCR_3; omega⟩
theorem rxgPCR_2_0 {X : (Nat → Int → Int) → Prop} {S0 : Nat → Int → Int} {ws : List Int} (hP : rxPPCR S0 ws) : bx_obC rxL X S0 rxCPCR.2.2.1 (rxIPCR S0 ws) (rxmPCR S0 ws) 2 rxzPCR_2 rxoPCR_2_0 := by
  intro S S_p r r_p hinv hX hin hsm_ hseg
  obtain ⟨I0, I1, h0_, hr_, b_, f_, d_⟩ := bx_cl (evs := [(0, (0, 482), (15, 0), .inr (0, (16, 0))), (0, (0, 482), (10, 730), .inr (0, (12, 0)))]) (fvs := [(5, (15, 0), (14, 298), (13, 0)), (4, (14, 0), (8, 0), (0, 36)), (5, (13, 0), (11, 0), (12, 0)), (4, (11, 0), (9, 0), (0, 6))]) hseg (by decide +kernel) (by decide +kernel)
  have hinv : rxIPCR_2 S0 ws S (r 8) (r 9) (r 10) := hinv
  rw [← hr_ 8 (by decide), ← hr_ 9 (by decide), ← hr_ 10 (by decide)] at hinv
  obtain ⟨⟨l8, u8⟩, ⟨l9, u9⟩, ⟨l10, u10⟩, ⟨l11, u11⟩, ⟨l12, u12⟩, ⟨l13, u13⟩, ⟨l14, u14⟩, ⟨l15, u15⟩, ⟨l16, u16⟩, -⟩ := b_
  obtain ⟨f0, f1, f2, f3, -⟩ := f_
  obtain ⟨e0, ⟨e1, w_⟩⟩ := d_
  subst w_
  have g := rxcPCR_2_0 hP hin I0 hinv l8 u8 l9 u9 l10 u10 l11 u11 l12 u12 l13 u13 l14 u14 l15 u15 l16 u16 f0 f1 f2 f3 e1 e0
  refine ⟨bx_narP_ok (l := []) g.1, bx_nfP_ok h0_ (fvs := []) (by decide +kernel) g.2.1, ?_, ?_⟩
  · show rxIPCR_3 S0 ws S_p (bx_val [(0, 0), (0, 0), (0, 0), (0, 0), (0, 0), (0, 0), (0, 0), (0, 0), (8, 0), (9, 0), (10, 0), (16, 0), (10, 0)] r_p 8) (bx_val [(0, 0), (0, 0), (0, 0), (0, 0), (0, 0), (0, 0), (0, 0), (0, 0), (8, 0), (9, 0), (10, 0), (16, 0), (10, 0)] r_p 9) (bx_val [(0, 0), (0, 0), (0, 0), (0, 0), (0, 0), (0, 0), (0, 0), (0, 0), (8, 0), (9, 0), (10, 0), (16, 0), (10, 0)] r_p 10) (bx_val [(0, 0), (0, 0), (0, 0), (0, 0), (0, 0), (0, 0), (0, 0), (0, 0), (8, 0), (9, 0), (10, 0), (16, 0), (10, 0)] r_p 11) (bx_val [(0, 0), (0, 0), (0, 0), (0, 0), (0, 0), (0, 0), (0, 0), (0, 0), (8, 0), (9, 0), (10, 0), (16, 0), (10, 0)] r_p 12)
    rw [bx_val_x (n := 8) (e := (8, 0)) h0_ rfl, bx_val_x (n := 9) (e := (9, 0)) h0_ rfl, bx_val_x (n := 10) (e := (10, 0)) h0_ rfl, bx_val_x (n := 11) (e := (16, 0)) h0_ rfl, bx_val_x (n := 12) (e := (10, 0)) h0_ rfl]
    exact g.2.2.1
  · show rxmPCR_3 S0 ws S_p (bx_val [(0, 0), (0, 0), (0, 0), (0, 0), (0, 0), (0, 0), (0, 0), (0, 0), (8, 0), (9, 0), (10, 0), (16, 0), (10, 0)] r_p 8) (bx_val [(0, 0), (0, 0), (0, 0), (0, 0), (0, 0), (0, 0), (0, 0), (0, 0), (8, 0), (9, 0), (10, 0), (16, 0), (10, 0)] r_p 9) (bx_val [(0, 0), (0, 0), (0, 0), (0, 0), (0, 0), (0, 0), (0, 0), (0, 0), (8, 0), (9, 0), (10, 0), (16, 0), (10, 0)] r_p 10) (bx_val [(0, 0), (0, 0), (0, 0), (0, 0), (0, 0), (0, 0), (0, 0), (0, 0), (8, 0), (9, 0), (10, 0), (16, 0), (10, 0)] r_p 11) (bx_val [(0, 0), (0, 0), (0, 0), (0, 0), (0, 0), (0, 0), (0, 0), (0, 0), (8, 0), (9, 0), (10, 0), (16, 0), (10, 0)] r_p 12) < rxmPCR_2 S0 ws S_p (r 8) (r 9) (r 10)
    rw [bx_val_x (n := 8) (e := (8, 0)) h0_ rfl, bx_val_x (n := 9) (e := (9, 0)) h0_ rfl, bx_val_x (n := 10) (e := (10, 0)) h0_ rfl, bx_val_x (n := 11) (e := (16, 0)) h0_ rfl, bx_val_x (n := 12) (e := (10, 0)) h0_ rfl, ← hr_ 8 (by decide), ← hr_ 9 (by decide), ← hr_ 10 (by decide)]
    exact g.2.2.2
theorem rxcPCR_4_0 {S0 : Nat → Int → Int} {ws : List Int} {S : Nat → Int → Int} {vs st k ru kx wo : Int} (hP : rxPPCR S0 ws) (hin : bx_same rxL (bx_mdl rxCPCR.2.2.1) S0 S) (I0 : bx_Inv rxL S) (hinv : rxIPCR_4 S0 ws S vs st k ru kx wo) (l8 : 0 ≤ vs) (u8 : vs ≤ 11) (l9 : 0 ≤ st) (u9 : st ≤ 5) (l10 : 0 ≤ k) (u10 : k ≤ 11) (l11 : (-1) ≤ ru) (u11 : ru ≤ 59) (l12 : 0 ≤ kx) (u12 : kx ≤ 11) (l13 : (-1) ≤ wo) (u13 : wo ≤ 9) : (True) ∧ (True) ∧ rxIPCR_5 S0 ws (bx_up S 497 kx wo) vs st k ru ∧ rxmPCR_5 S0 ws (bx_up S 497 kx wo) vs st k ru < rxmPCR_4 S0 ws S vs st k ru kx wo := by
  obtain ⟨hw, hf, hk5, hk, hkx, hru, h2, h3, h4, hwo⟩ := hinv
  exact ⟨trivial, trivial, ⟨hw, fun j => (bx_up_ne (by omega)).trans (hf j), hk5, hk, hru, h2, h3, fun j hj => ⟨(bx_up_ne (by omega)).trans (h4 j hj).1, (h4 j hj).2⟩, by rw [hkx]; exact bx_up_at.trans hwo⟩, by unfold rxmPCR_4 rxmPCR_5; omega⟩
theorem rxgPCR_4_0 {X : (Nat → Int → Int) → Prop} {S0 : Nat → Int → Int} {ws : List Int} (hP : rxPPCR S0 ws) : bx_obC rxL X S0 rxCPCR.2.2.1 (rxIPCR S0 ws) (rxmPCR S0 ws) 4 rxzPCR_4 rxoPCR_4_0 := by
  intro S S_p r r_p hinv hX hin hsm_ hseg
  obtain ⟨I0, I1, h0_, hr_, b_, f_, d_⟩ := bx_cl (evs := [(1, (0, 497), (12, 0), .inr (0, (13, 0)))]) (fvs := []) hseg (by decide +kernel) (by decide +kernel)
  have hinv : rxIPCR_4 S0 ws S (r 8) (r 9) (r 10) (r 11) (r 12) (r 13) := hinv
  rw [← hr_ 8 (by decide), ← hr_ 9 (by decide), ← hr_ 10 (by decide), ← hr_ 11 (by decide), ← hr_ 12 (by decide), ← hr_ 13 (by decide)] at hinv
  obtain ⟨⟨l8, u8⟩, ⟨l9, u9⟩, ⟨l10, u10⟩, ⟨l11, u11⟩, ⟨l12, u12⟩, ⟨l13, u13⟩, -⟩ := b_
  obtain ⟨T0, w_, w0⟩ := d_
  subst w0
  subst w_
  have g := rxcPCR_4_0 hP hin I0 hinv l8 u8 l9 u9 l10 u10 l11 u11 l12 u12 l13 u13
  refine ⟨bx_narP_ok (l := []) g.1, bx_nfP_ok h0_ (fvs := []) (by decide +kernel) g.2.1, ?_, ?_⟩
  · show rxIPCR_5 S0 ws (bx_up T0 497 (r_p 12) (r_p 13)) (bx_val [(0, 0), (0, 0), (0, 0), (0, 0), (0, 0), (0, 0), (0, 0), (0, 0), (8, 0), (9, 0), (10, 0), (11, 0)] r_p 8) (bx_val [(0, 0), (0, 0), (0, 0), (0, 0), (0, 0), (0, 0), (0, 0), (0, 0), (8, 0), (9, 0), (10, 0), (11, 0)] r_p 9) (bx_val [(0, 0), (0, 0), (0, 0), (0, 0), (0, 0), (0, 0), (0, 0), (0, 0), (8, 0), (9, 0), (10, 0), (11, 0)] r_p 10) (bx_val [(0, 0), (0, 0), (0, 0), (0, 0), (0, 0), (0, 0), (0, 0), (0, 0), (8, 0), (9, 0), (10, 0), (11, 0)] r_p 11)
    rw [bx_val_x (n := 8) (e := (8, 0)) h0_ rfl, bx_val_x (n := 9) (e := (9, 0)) h0_ rfl, bx_val_x (n := 10) (e := (10, 0)) h0_ rfl, bx_val_x (n := 11) (e := (11, 0)) h0_ rfl]
    exact g.2.2.1
  · show rxmPCR_5 S0 ws (bx_up T0 497 (r_p 12) (r_p 13)) (bx_val [(0, 0), (0, 0), (0, 0), (0, 0), (0, 0), (0, 0), (0, 0), (0, 0), (8, 0), (9, 0), (10, 0), (11, 0)] r_p 8) (bx_val [(0, 0), (0, 0), (0, 0), (0, 0), (0, 0), (0, 0), (0, 0), (0, 0), (8, 0), (9, 0), (10, 0), (11, 0)] r_p 9) (bx_val [(0, 0), (0, 0), (0, 0), (0, 0), (0, 0), (0, 0), (0, 0), (0, 0), (8, 0), (9, 0), (10, 0), (11, 0)] r_p 10) (bx_val [(0, 0), (0, 0), (0, 0), (0, 0), (0, 0), (0, 0), (0, 0), (0, 0), (8, 0), (9, 0), (10, 0), (11, 0)] r_p 11) < rxmPCR_4 S0 ws T0 (r 8) (r 9) (r 10) (r 11) (r 12) (r 13)
    rw [bx_val_x (n := 8) (e := (8, 0)) h0_ rfl, bx_val_x (n := 9) (e := (9, 0)) h0_ rfl, bx_val_x (n := 10) (e := (10, 0)) h0_ rfl, bx_val_x (n := 11) (e := (11, 0)) h0_ rfl, ← hr_ 8 (by decide), ← hr_ 9 (by decide), ← hr_ 10 (by decide), ← hr_ 11 (by decide), ← hr_ 12 (by decide), ← hr_ 13 (by decide)]
    exact g.2.2.2
theorem rxcPCR_6_0 {S0 : Nat → Int → Int} {ws : List Int} {S : Nat → Int → Int} {vs st k ru nx : Int} (hP : rxPPCR S0 ws) (hin : bx_same rxL (bx_mdl rxCPCR.2.2.1) S0 S) (I0 : bx_Inv rxL S) (hinv : rxIPCR_6 S0 ws S vs st k ru nx) (l8 : 0 ≤ vs) (u8 : vs ≤ 11) (l9 : 0 ≤ st) (u9 : st ≤ 5) (l10 : 0 ≤ k) (u10 : k ≤ 11) (l11 : (-1) ≤ ru) (u11 : ru ≤ (-1)) (l12 : (-1) ≤ nx) (u12 : nx ≤ 5) : (True) ∧ (True) ∧ rxIPCR_1 S0 ws (bx_up S 480 37 k) vs nx (k + 1) ∧ rxmPCR_1 S0 ws (bx_up S 480 37 k) vs nx (k + 1) < rxmPCR_6 S0 ws S vs st k ru nx := by
  obtain ⟨hw, hf, hk5, hk, hru, h2, h3, h4, h5, hnx⟩ := hinv
  have hk_ : ((k.toNat : Nat) : Int) = k := Int.toNat_of_nonneg (by omega)
  have hi : (6 * st + S0 482 (730 + k)) = 6 * st + (fun k => S0 482 (730 + k)) ((k.toNat : Nat) : Int) := by
    show (6 * st + S0 482 (730 + k)) = 6 * st + S0 482 (730 + ((k.toNat : Nat) : Int))
    rw [hk_]
  obtain ⟨y1, y2⟩ := rjPs_h h2 hi h3 (hru.symm.trans (by omega))
  exact ⟨trivial, trivial, ⟨hw, fun j => (bx_up_ne (by omega)).trans (hf j), by omega, Or.inr ⟨k.toNat, bx_up_at.trans (by omega), by omega, y2, y1, fun j hj => ⟨(bx_up_ne (by omega)).trans (h4 j (by omega)).1, (h4 j (by omega)).2⟩⟩⟩, by unfold rxmPCR_6 rxmPCR_1; omega⟩
theorem rxgPCR_6_0 {X : (Nat → Int → Int) → Prop} {S0 : Nat → Int → Int} {ws : List Int} (hP : rxPPCR S0 ws) : bx_obC rxL X S0 rxCPCR.2.2.1 (rxIPCR S0 ws) (rxmPCR S0 ws) 6 rxzPCR_6 rxoPCR_6_0 := by
  intro S S_p r r_p hinv hX hin hsm_ hseg
  obtain ⟨I0, I1, h0_, hr_, b_, f_, d_⟩ := bx_cl (evs := [(1, (0, 480), (0, 37), .inr (0, (10, 0)))]) (fvs := []) hseg (by decide +kernel) (by decide +kernel)
  have hinv : rxIPCR_6 S0 ws S (r 8) (r 9) (r 10) (r 11) (r 12) := hinv
  rw [← hr_ 8 (by decide), ← hr_ 9 (by decide), ← hr_ 10 (by decide), ← hr_ 11 (by decide), ← hr_ 12 (by decide)] at hinv
  obtain ⟨⟨l8, u8⟩, ⟨l9, u9⟩, ⟨l10, u10⟩, ⟨l11, u11⟩, ⟨l12, u12⟩, -⟩ := b_
  obtain ⟨T0, w_, w0⟩ := d_
  subst w0
  subst w_
  have g := rxcPCR_6_0 hP hin I0 hinv l8 u8 l9 u9 l10 u10 l11 u11 l12 u12
  refine ⟨bx_narP_ok (l := []) g.1, bx_nfP_ok h0_ (fvs := []) (by decide +kernel) g.2.1, ?_, ?_⟩
  · show rxIPCR_1 S0 ws (bx_up T0 480 (37) (r_p 10)) (bx_val [(0, 0), (0, 0), (0, 0), (0, 0), (0, 0), (0, 0), (0, 0), (0, 0), (8, 0), (12, 0), (10, 1)] r_p 8) (bx_val [(0, 0), (0, 0), (0, 0), (0, 0), (0, 0), (0, 0), (0, 0), (0, 0), (8, 0), (12, 0), (10, 1)] r_p 9) (bx_val [(0, 0), (0, 0), (0, 0), (0, 0), (0, 0), (0, 0), (0, 0), (0, 0), (8, 0), (12, 0), (10, 1)] r_p 10)
    rw [bx_val_x (n := 8) (e := (8, 0)) h0_ rfl, bx_val_x (n := 9) (e := (12, 0)) h0_ rfl, bx_val_x (n := 10) (e := (10, 1)) h0_ rfl]
    exact g.2.2.1
  · show rxmPCR_1 S0 ws (bx_up T0 480 (37) (r_p 10)) (bx_val [(0, 0), (0, 0), (0, 0), (0, 0), (0, 0), (0, 0), (0, 0), (0, 0), (8, 0), (12, 0), (10, 1)] r_p 8) (bx_val [(0, 0), (0, 0), (0, 0), (0, 0), (0, 0), (0, 0), (0, 0), (0, 0), (8, 0), (12, 0), (10, 1)] r_p 9) (bx_val [(0, 0), (0, 0), (0, 0), (0, 0), (0, 0), (0, 0), (0, 0), (0, 0), (8, 0), (12, 0), (10, 1)] r_p 10) < rxmPCR_6 S0 ws T0 (r 8) (r 9) (r 10) (r 11) (r 12)
    rw [bx_val_x (n := 8) (e := (8, 0)) h0_ rfl, bx_val_x (n := 9) (e := (12, 0)) h0_ rfl, bx_val_x (n := 10) (e := (10, 1)) h0_ rfl, ← hr_ 8 (by decide), ← hr_ 9 (by decide), ← hr_ 10 (by decide), ← hr_ 11 (by decide), ← hr_ 12 (by decide)]
    exact g.2.2.2
theorem rxcPCR_6_1 {S0 : Nat → Int → Int} {ws : List Int} {S : Nat → Int → Int} {vs st k ru nx : Int} (hP : rxPPCR S0 ws) (hin : bx_same rxL (bx_mdl rxCPCR.2.2.1) S0 S) (I0 : bx_Inv rxL S) (hinv : rxIPCR_6 S0 ws S vs st k ru nx) (l8 : 0 ≤ vs) (u8 : vs ≤ 11) (l9 : 0 ≤ st) (u9 : st ≤ 5) (l10 : 0 ≤ k) (u10 : k ≤ 11) (l11 : 0 ≤ ru) (u11 : ru ≤ 59) (l12 : (-1) ≤ nx) (u12 : nx ≤ 5) (f0 : ru ≠ (-1)) : (True) ∧ (True) ∧ rxIPCR_1 S0 ws (bx_up S 480 37 ((-1))) vs nx (k + 1) ∧ rxmPCR_1 S0 ws (bx_up S 480 37 ((-1))) vs nx (k + 1) < rxmPCR_6 S0 ws S vs st k ru nx := by
  obtain ⟨hw, hf, hk5, hk, hru, h2, h3, h4, h5, hnx⟩ := hinv
  have hk_ : ((k.toNat : Nat) : Int) = k := Int.toNat_of_nonneg (by omega)
  have hi : (6 * st + S0 482 (730 + k)) = 6 * st + (fun k => S0 482 (730 + k)) ((k.toNat : Nat) : Int) := by
    show (6 * st + S0 482 (730 + k)) = 6 * st + S0 482 (730 + ((k.toNat : Nat) : Int))
    rw [hk_]
  have wx := rjdWo_x (r := ru) (by omega)
  obtain ⟨y1, y2⟩ := rjPs_g h2 hi h3 (fun z => by rw [← hru] at z; omega)
  rw [← hru] at y1 y2
  refine ⟨trivial, trivial, ⟨hw, fun j => (bx_up_ne (by omega)).trans (hf j), by omega, Or.inl ⟨bx_up_at, ?_, by omega, fun j hj => ?_⟩⟩, by unfold rxmPCR_6 rxmPCR_1; omega⟩
  · rw [show (k + 1).toNat = k.toNat + 1 by omega, y1]
    omega
  · by_cases c : (j : Int) < k
    · exact ⟨(bx_up_ne (by omega)).trans (h4 j c).1, (h4 j c).2⟩
    · rw [show j = k.toNat by omega, y2, hk_]
      exact ⟨(bx_up_ne (by omega)).trans (h5.trans (by omega)), by omega⟩
theorem rxgPCR_6_1 {X : (Nat → Int → Int) → Prop} {S0 : Nat → Int → Int} {ws : List Int} (hP : rxPPCR S0 ws) : bx_obC rxL X S0 rxCPCR.2.2.1 (rxIPCR S0 ws) (rxmPCR S0 ws) 6 rxzPCR_6 rxoPCR_6_1 := by
  intro S S_p r r_p hinv hX hin hsm_ hseg
  obtain ⟨I0, I1, h0_, hr_, b_, f_, d_⟩ := bx_cl (evs := [(1, (0, 480), (0, 37), .inr (0, (0, (-1))))]) (fvs := [(3, (11, 0), (0, (-1)), (0, 0))]) hseg (by decide +kernel) (by decide +kernel)
  have hinv : rxIPCR_6 S0 ws S (r 8) (r 9) (r 10) (r 11) (r 12) := hinv
  rw [← hr_ 8 (by decide), ← hr_ 9 (by decide), ← hr_ 10 (by decide), ← hr_ 11 (by decide), ← hr_ 12 (by decide)] at hinv
  obtain ⟨⟨l8, u8⟩, ⟨l9, u9⟩, ⟨l10, u10⟩, ⟨l11, u11⟩, ⟨l12, u12⟩, -⟩ := b_
  obtain ⟨f0, -⟩ := f_
  obtain ⟨T0, w_, w0⟩ := d_
  subst w0
  subst w_
  have g := rxcPCR_6_1 hP hin I0 hinv l8 u8 l9 u9 l10 u10 l11 u11 l12 u12 f0
  refine ⟨bx_narP_ok (l := []) g.1, bx_nfP_ok h0_ (fvs := []) (by decide +kernel) g.2.1, ?_, ?_⟩
  · show rxIPCR_1 S0 ws (bx_up T0 480 (37) ((-1))) (bx_val [(0, 0), (0, 0), (0, 0), (0, 0), (0, 0), (0, 0), (0, 0), (0, 0), (8, 0), (12, 0), (10, 1)] r_p 8) (bx_val [(0, 0), (0, 0), (0, 0), (0, 0), (0, 0), (0, 0), (0, 0), (0, 0), (8, 0), (12, 0), (10, 1)] r_p 9) (bx_val [(0, 0), (0, 0), (0, 0), (0, 0), (0, 0), (0, 0), (0, 0), (0, 0), (8, 0), (12, 0), (10, 1)] r_p 10)
    rw [bx_val_x (n := 8) (e := (8, 0)) h0_ rfl, bx_val_x (n := 9) (e := (12, 0)) h0_ rfl, bx_val_x (n := 10) (e := (10, 1)) h0_ rfl]
    exact g.2.2.1
  · show rxmPCR_1 S0 ws (bx_up T0 480 (37) ((-1))) (bx_val [(0, 0), (0, 0), (0, 0), (0, 0), (0, 0), (0, 0), (0, 0), (0, 0), (8, 0), (12, 0), (10, 1)] r_p 8) (bx_val [(0, 0), (0, 0), (0, 0), (0, 0), (0, 0), (0, 0), (0, 0), (0, 0), (8, 0), (12, 0), (10, 1)] r_p 9) (bx_val [(0, 0), (0, 0), (0, 0), (0, 0), (0, 0), (0, 0), (0, 0), (0, 0), (8, 0), (12, 0), (10, 1)] r_p 10) < rxmPCR_6 S0 ws T0 (r 8) (r 9) (r 10) (r 11) (r 12)
    rw [bx_val_x (n := 8) (e := (8, 0)) h0_ rfl, bx_val_x (n := 9) (e := (12, 0)) h0_ rfl, bx_val_x (n := 10) (e := (10, 1)) h0_ rfl, ← hr_ 8 (by decide), ← hr_ 9 (by decide), ← hr_ 10 (by decide), ← hr_ 11 (by decide), ← hr_ 12 (by decide)]
    exact g.2.2.2
theorem rxgCPCR {X : (Nat → Int → Int) → Prop} {S0 : Nat → Int → Int} {ws : List Int} (hP : rxPPCR S0 ws) : bx_allI (fun i q => rxUPCR q = true ∨ bx_allP (fun o => bx_obC rxL X S0 rxCPCR.2.2.1 (rxIPCR S0 ws) (rxmPCR S0 ws) i q.1 o) q.2.1) 0 rxYPCR := ⟨Or.inr ⟨rxgPCR_0_0 hP, trivial⟩, Or.inr ⟨rxgPCR_1_0 hP, trivial⟩, Or.inr ⟨rxgPCR_2_0 hP, trivial⟩, Or.inl rfl, Or.inr ⟨rxgPCR_4_0 hP, trivial⟩, Or.inl rfl, Or.inr ⟨rxgPCR_6_0 hP, rxgPCR_6_1 hP, trivial⟩, trivial⟩
theorem rxgEPCR {X : (Nat → Int → Int) → Prop} {S0 : Nat → Int → Int} {ws : List Int} (hP : rxPPCR S0 ws) : bx_allI (fun i q => rxUPCR q = true ∨ bx_allP (fun E => bx_obE rxL X S0 rxCPCR.2.2.1 (rxIPCR S0 ws) (rxPSPCR S0 ws) i q.1 E) q.2.2) 0 rxYPCR := ⟨Or.inr trivial, Or.inr ⟨rxfPCR_1_0 hP, rxfPCR_1_1 hP, trivial⟩, Or.inr trivial, Or.inl rfl, Or.inr trivial, Or.inl rfl, Or.inr trivial, trivial⟩
theorem rxuPCR {PX : State → Prop} {Dg : va_G} {A : Nat → Prop} {ad xa : Nat → Nat} {l : Launch} {X : (Nat → Int → Int) → Prop} (hPX : rx_PXOK rxNW A PX) (hX : ∀ S S1 : Nat → Int → Int, X S → bx_same rxL (bx_mdl rxCPCR.2.2.1) S S1 → X S1) (hQWOK : bx_ConP rxG rxNW rxAO PX Dg rxL X vwCl A ad l rxM17 rxCWOK rxPWOK rxPSWOK) (hQNOK : bx_ConP rxG rxNW rxAO PX Dg rxL X vwCl A ad l rxM20 rxCNOK rxPNOK rxPSNOK) {S0 : Nat → Int → Int} {ws : List Int} (hP : rxPPCR S0 ws) : ∀ (i : Nat) (q : bx_HE), rxYPCR[i]? = some q → rxUPCR q = true → ∀ {p : Program} {e : Env} {R : Room} {s : State} {m : MethodId} {args : Array Value} {below : List Frame} {meth : Method} {c : Code} {Q : State → Prop} {H0 : Heap}, rx_Fr rxG rxNW rxAO PX p s m args meth c rxM301 → (∀ q, H0.size ≤ q → A q) → H0 = s.heap → rxM301.2.2.2.2.2.2.1 ≤ R.cells → rxM301.2.2.2.2.2.2.2 ≤ R.slots → rxCPCR.2.2.2.1 ≤ R.frames → rxCPCR.2.2.2.1 * 40 ≤ R.locals → bx_Step p l e R s m args below meth c Q Dg rxL X vwCl A xa H0 ad rxM301 rxYPCR (rxIPCR S0 ws) (rxmPCR S0 ws) S0 rxCPCR.2.2.1 i q := by
  intro i q hq hus p e R s m args below meth c Q H0 hF hA hH0 hmc hms hd hdl
  match i, hq with
  | 0, hq =>
    cases hq
    exact absurd (show false = true from hus) Bool.false_ne_true
  | 1, hq =>
    cases hq
    exact absurd (show false = true from hus) Bool.false_ne_true
  | 2, hq =>
    cases hq
    exact absurd (show false = true from hus) Bool.false_ne_true
  | 3, hq =>
    cases hq
    exact rx_stepC (ins := .invokestatic 191) (len := 3) (i_p := 4) (M_p := rxM17) (d := rxCPCR.2.2.2.1) (as := [.inr (0, (11, 0))]) (t := [.inr (0, (12, 0)), .inr (3, (0, 497))]) (ct := rxCWOK) hPX hF rfl hA hH0 hmc hms hd hdl (by decide +kernel) rfl rfl (by decide +kernel) (by decide +kernel) hQWOK (by decide +kernel) rfl (Or.inr ⟨_, _, _, 1, rfl, rfl, by omega, rfl, rfl, rfl⟩) (rxsPCR_3 hP)
  | 4, hq =>
    cases hq
    exact absurd (show false = true from hus) Bool.false_ne_true
  | 5, hq =>
    cases hq
    exact rx_stepC (ins := .invokestatic 212) (len := 3) (i_p := 6) (M_p := rxM20) (d := rxCPCR.2.2.2.1) (as := [.inr (0, (11, 0))]) (t := []) (ct := rxCNOK) hPX hF rfl hA hH0 hmc hms hd hdl (by decide +kernel) rfl rfl (by decide +kernel) (by decide +kernel) hQNOK (by decide +kernel) rfl (Or.inr ⟨_, _, _, 1, rfl, rfl, by omega, rfl, rfl, rfl⟩) (rxsPCR_5 hP)
  | 6, hq =>
    cases hq
    exact absurd (show false = true from hus) Bool.false_ne_true
  | n + 7, hq => cases hq
theorem rxQPCR {PX : State → Prop} {Dg : va_G} {A : Nat → Prop} {ad xa : Nat → Nat} {l : Launch} {X : (Nat → Int → Int) → Prop} (hPX : rx_PXOK rxNW A PX) (hsl : ∀ s : State, PX s → ∀ o idx n : Nat, rxSl o idx = some n → ∃ tx : String, vk_R (rxNm o) idx tx (ad n) s)
    (hX : ∀ S S_p : Nat → Int → Int, X S → bx_same rxL (bx_mdl rxCPCR.2.2.1) S S_p → X S_p)
    (ih : ∀ (j2 : Nat) (ct2 : bx_Ct) (M2 : rx_Mt), ct2 ∈ rxCnE j2 → ct2.2.2.2.1 + 1 ≤ rxCPCR.2.2.2.1 → rxT.2.2.2.2.2 j2 = some M2 → bx_Con rxG rxNW rxAO PX Dg rxL X vwCl A ad l M2 ct2) (hQWOK : bx_ConP rxG rxNW rxAO PX Dg rxL X vwCl A ad l rxM17 rxCWOK rxPWOK rxPSWOK) (hQNOK : bx_ConP rxG rxNW rxAO PX Dg rxL X vwCl A ad l rxM20 rxCNOK rxPNOK rxPSNOK) : bx_ConP rxG rxNW rxAO PX Dg rxL X vwCl A ad l rxM301 rxCPCR rxPPCR rxPSPCR :=
  rxQof (xa := xa) (Cn := rxCnE) (f := 30000) (j := 301) (tab := rxYPCR) (us := rxUPCR) hPX hsl hX ih rfl rxYcPCR rxIPCR rxmPCR
    (fun S0 ws r I0 I ht0 ht as he he1 hX0 hI0 hP hs ha => by
      have e := he.symm.trans (show bx_ent0 rxNP rxCPCR.1 bx_I0 [] = some ([(0, 0), (0, 0), (0, 0), (0, 0), (0, 0), (0, 0), (0, 0), (0, 0), (0, 11)], [], [.inr (3, (0, 480)), .inr (0, (8, 0))]) from rfl)
      cases e
      subst ha
      have h0 : r 0 = 0 := hs.1
      show rxIPCR_0 S0 _ S0 (r 8)
      refine ⟨rfl, ?_⟩
      simp only [List.map_cons, List.map_nil, bx_xv_ok h0]
      rfl)
    (fun S0 ws hP => rxuPCR (xa := xa) hPX hX hQWOK hQNOK hP) (fun S0 ws hP => rxgCPCR hP) (fun S0 ws hP => rxgEPCR hP)
noncomputable def rxISYR_0 (S0 : Nat → Int → Int) (ws : List Int) (S : Nat → Int → Int) (vs i : Int) : Prop := S = S0 ∧ ws = [480, vs, i]
noncomputable def rxmSYR_0 (S0 : Nat → Int → Int) (ws : List Int) (S : Nat → Int → Int) (vs i : Int) : Nat := 100
noncomputable def rxzSYR_0 : rx_Z := ([(0, 0), (0, 0), (0, 0), (0, 0), (0, 0), (0, 0), (0, 0), (0, 0), ((-2147483648), 2147483647), ((-2147483648), 2147483647)], [], [], 0, 0, 0, [(0, .inr (3, (0, 480))), (1, .inr (0, (8, 0))), (2, .inr (0, (9, 0)))], [])
noncomputable def rxISYR_1 (S0 : Nat → Int → Int) (ws : List Int) (S : Nat → Int → Int) (vs i : Int) : Prop := S = bx_up S0 480 0 0 ∧ ws = [480, vs, i] ∧ (0 ≤ vs ∧ vs < S0 482 2 ∧ 0 ≤ i ∧ i < S0 482 5)
noncomputable def rxmSYR_1 (S0 : Nat → Int → Int) (ws : List Int) (S : Nat → Int → Int) (vs i : Int) : Nat := 90
noncomputable def rxzSYR_1 : rx_Z := ([(0, 0), (0, 0), (0, 0), (0, 0), (0, 0), (0, 0), (0, 0), (0, 0), (0, 11), (0, 11)], [], [], 0, 0, 35, [(0, .inr (3, (0, 480))), (1, .inr (0, (8, 0))), (2, .inr (0, (9, 0)))], [.inr (0, (8, 0)), .inr (3, (0, 480))])
noncomputable def rxISYR_2 (S0 : Nat → Int → Int) (ws : List Int) (S : Nat → Int → Int) (vs i : Int) : Prop := ws = [480, vs, i] ∧ (0 ≤ vs ∧ vs < S0 482 2 ∧ 0 ≤ i ∧ i < S0 482 5) ∧ ((∀ j : Int, S 482 j = S0 482 j) ∧ ((S 480 37 = -1 ∧ (∀ m : Nat, (m : Int) < S0 482 5 → S 497 (m : Int) = rjPw (rjSc (S0 482) (298 + 36 * vs)) (fun k => S0 482 (730 + k)) m ∧ 0 ≤ rjPw (rjSc (S0 482) (298 + 36 * vs)) (fun k => S0 482 (730 + k)) m ∧ rjPw (rjSc (S0 482) (298 + 36 * vs)) (fun k => S0 482 (730 + k)) m ≤ 9)) ∨ (∃ j : Nat, S 480 37 = (j : Int) ∧ (j : Int) < S0 482 5 ∧ rjPw (rjSc (S0 482) (298 + 36 * vs)) (fun k => S0 482 (730 + k)) j = 100 ∧ rjPs (rjSc (S0 482) (298 + 36 * vs)) (fun k => S0 482 (730 + k)) (j + 1) = -1 ∧ (∀ m : Nat, (m : Int) < (j : Int) → S 497 (m : Int) = rjPw (rjSc (S0 482) (298 + 36 * vs)) (fun k => S0 482 (730 + k)) m ∧ 0 ≤ rjPw (rjSc (S0 482) (298 + 36 * vs)) (fun k => S0 482 (730 + k)) m ∧ rjPw (rjSc (S0 482) (298 + 36 * vs)) (fun k => S0 482 (730 + k)) m ≤ 9))))
noncomputable def rxmSYR_2 (S0 : Nat → Int → Int) (ws : List Int) (S : Nat → Int → Int) (vs i : Int) : Nat := 80
noncomputable def rxzSYR_2 : rx_Z := ([(0, 0), (0, 0), (0, 0), (0, 0), (0, 0), (0, 0), (0, 0), (0, 0), (0, 11), (0, 11)], [], [], 0, 0, 38, [(0, .inr (3, (0, 480))), (1, .inr (0, (8, 0))), (2, .inr (0, (9, 0)))], [])
noncomputable def rxoSYR_0_0 : bx_HO := (([(0, 0), (0, 0), (0, 0), (0, 0), (0, 0), (0, 0), (0, 0), (0, 0), (0, 11), (0, 11), (1, 12), (1, 12)], [(1, (9, 0), (11, (-1))), (1, (8, 0), (10, (-1)))], [(((0, 0), 1851192626986356798427873864310897359480125337295219445606776832000000), .inr (0, (11, 0))), (((0, 482), 5), .inr (0, (11, 0))), (((0, 0), 1851192626986356797825753743950570534658660943933713684945305600000000), .inr (0, (10, 0))), (((0, 482), 2), .inr (0, (10, 0))), (((0, 480), 3), .inr (3, (0, 482))), (((0, 0), 1851192626986356797424340330377019318111018015026043177836478467000000), .inr (0, (0, 0))), (((0, 480), 0), .inr (0, (0, 0)))], 0, 0, 35, [(0, .inr (3, (0, 480))), (1, .inr (0, (8, 0))), (2, .inr (0, (9, 0)))], [.inr (0, (8, 0)), .inr (3, (0, 480))]), [], [], [(0, 0), (0, 0), (0, 0), (0, 0), (0, 0), (0, 0), (0, 0), (0, 0), (8, 0), (9, 0)], 1)
noncomputable def rxeSYR_0_0 : rx_End × List (Nat × Int × Int) := (([(0, 0), (0, 0), (0, 0), (0, 0), (0, 0), (0, 0), (0, 0), (0, 0), (0, 11), ((-2147483648), (-1)), (1, 12), (0, 12)], [(1, (8, 0), (10, (-1)))], [(((0, 0), 1851192626986356798427873864310897359480125337295219445606776832000000), .inr (0, (11, 0))), (((0, 482), 5), .inr (0, (11, 0))), (((0, 0), 1851192626986356797825753743950570534658660943933713684945305600000000), .inr (0, (10, 0))), (((0, 482), 2), .inr (0, (10, 0))), (((0, 480), 3), .inr (3, (0, 482))), (((0, 0), 1851192626986356797424340330377019318111018015026043177836478467000000), .inr (0, (0, 0))), (((0, 480), 0), .inr (0, (0, 0)))], some (.inr (0, (0, (-1))))), [])
noncomputable def rxeSYR_0_1 : rx_End × List (Nat × Int × Int) := (([(0, 0), (0, 0), (0, 0), (0, 0), (0, 0), (0, 0), (0, 0), (0, 0), (0, 11), (0, 2147483647), (1, 12), (0, 12)], [(0, (11, (-1)), (9, 0)), (1, (8, 0), (10, (-1)))], [(((0, 0), 1851192626986356798427873864310897359480125337295219445606776832000000), .inr (0, (11, 0))), (((0, 482), 5), .inr (0, (11, 0))), (((0, 0), 1851192626986356797825753743950570534658660943933713684945305600000000), .inr (0, (10, 0))), (((0, 482), 2), .inr (0, (10, 0))), (((0, 480), 3), .inr (3, (0, 482))), (((0, 0), 1851192626986356797424340330377019318111018015026043177836478467000000), .inr (0, (0, 0))), (((0, 480), 0), .inr (0, (0, 0)))], some (.inr (0, (0, (-1))))), [])
noncomputable def rxeSYR_0_2 : rx_End × List (Nat × Int × Int) := (([(0, 0), (0, 0), (0, 0), (0, 0), (0, 0), (0, 0), (0, 0), (0, 0), (0, 2147483647), ((-2147483648), 2147483647), (0, 12)], [(0, (10, (-1)), (8, 0))], [(((0, 0), 1851192626986356797825753743950570534658660943933713684945305600000000), .inr (0, (10, 0))), (((0, 482), 2), .inr (0, (10, 0))), (((0, 480), 3), .inr (3, (0, 482))), (((0, 0), 1851192626986356797424340330377019318111018015026043177836478467000000), .inr (0, (0, 0))), (((0, 480), 0), .inr (0, (0, 0)))], some (.inr (0, (0, (-1))))), [])
noncomputable def rxeSYR_0_3 : rx_End × List (Nat × Int × Int) := (([(0, 0), (0, 0), (0, 0), (0, 0), (0, 0), (0, 0), (0, 0), (0, 0), ((-2147483648), (-1)), ((-2147483648), 2147483647), (0, 12)], [], [(((0, 0), 1851192626986356797825753743950570534658660943933713684945305600000000), .inr (0, (10, 0))), (((0, 482), 2), .inr (0, (10, 0))), (((0, 480), 3), .inr (3, (0, 482))), (((0, 0), 1851192626986356797424340330377019318111018015026043177836478467000000), .inr (0, (0, 0))), (((0, 480), 0), .inr (0, (0, 0)))], some (.inr (0, (0, (-1))))), [])
noncomputable def rxeSYR_2_0 : rx_End × List (Nat × Int × Int) := (([(0, 0), (0, 0), (0, 0), (0, 0), (0, 0), (0, 0), (0, 0), (0, 0), (0, 11), (0, 11), (0, 11)], [(1, (10, 0), (9, 0)), (3, (10, 0), (0, (-1)))], [(((0, 0), 1851192626986356804850488481487716824242412199817947559327956992000000), .inr (0, (10, 0))), (((0, 480), 37), .inr (0, (10, 0)))], some (.inr (0, (0, 100)))), [])
noncomputable def rxeSYR_2_1 : rx_End × List (Nat × Int × Int) := (([(0, 0), (0, 0), (0, 0), (0, 0), (0, 0), (0, 0), (0, 0), (0, 0), (0, 11), (0, 10), (1, 11), ((-1), 9)], [(0, (9, 0), (10, 0)), (3, (10, 0), (0, (-1)))], [(((0, 0), 1851192626986356797424367893248739914126558548369245151071633408000000), .inr (0, (11, 0))), (((0, 480), 36), .inr (3, (0, 497))), (((0, 0), 1851192626986356804850488481487716824242412199817947559327956992000000), .inr (0, (10, 0))), (((0, 480), 37), .inr (0, (10, 0)))], some (.inr (0, (11, 0)))), [])
noncomputable def rxeSYR_2_2 : rx_End × List (Nat × Int × Int) := (([(0, 0), (0, 0), (0, 0), (0, 0), (0, 0), (0, 0), (0, 0), (0, 0), (0, 11), (0, 11), ((-1), (-1)), ((-1), 9)], [], [(((0, 0), 1851192626986356797424367893248739914126558548369245151071633408000000), .inr (0, (11, 0))), (((0, 480), 36), .inr (3, (0, 497))), (((0, 0), 1851192626986356804850488481487716824242412199817947559327956992000000), .inr (0, (10, 0))), (((0, 480), 37), .inr (0, (10, 0)))], some (.inr (0, (11, 0)))), [])
noncomputable def rxYSYR : List bx_HE := [(rxzSYR_0, [rxoSYR_0_0], [rxeSYR_0_0, rxeSYR_0_1, rxeSYR_0_2, rxeSYR_0_3]), (rxzSYR_1, [], []), (rxzSYR_2, [], [rxeSYR_2_0, rxeSYR_2_1, rxeSYR_2_2])]
noncomputable def rxUSYR (q : bx_HE) : Bool := Nat.beq (rx_zpc q.1) 35
noncomputable def rxYBSYR : bx_B := (rxV, rxNP, rxDmf, bx_mdH rxC168.2.2.1)
set_option maxRecDepth 100000 in
theorem rxYcSYR : bx_chkH rxYBSYR rxM168 rxC168 rxYSYR (rxUSYR, fun cut z => rx_ex2 (rxCT rxYBSYR rxCnE) cut 30000 rxC168.2.2.2.1 168 z) = true := by decide +kernel
noncomputable def rxISYR (S0 : Nat → Int → Int) (ws : List Int) (i : Nat) : bx_SP := fun S r => match i with | 0 => rxISYR_0 S0 ws S (r 8) (r 9) | 1 => rxISYR_1 S0 ws S (r 8) (r 9) | 2 => rxISYR_2 S0 ws S (r 8) (r 9) | _ => False
noncomputable def rxmSYR (S0 : Nat → Int → Int) (ws : List Int) (i : Nat) (S : Nat → Int → Int) (r : Nat → Int) : Nat := match i with | 0 => rxmSYR_0 S0 ws S (r 8) (r 9) | 1 => rxmSYR_1 S0 ws S (r 8) (r 9) | 2 => rxmSYR_2 S0 ws S (r 8) (r 9) | _ => 0
noncomputable def rxPSYR (S0 : Nat → Int → Int) (ws : List Int) : Prop := True
noncomputable def rxPSSYR (S0 : Nat → Int → Int) (ws : List Int) (S : Nat → Int → Int) (w : Option Int) : Prop := ∃ vs i : Int, ws = [480, vs, i] ∧ (((vs < 0 ∨ S0 482 2 ≤ vs ∨ i < 0 ∨ S0 482 5 ≤ i) ∧ w = some (-1)) ∨ ((0 ≤ vs ∧ vs < S0 482 2 ∧ 0 ≤ i ∧ i < S0 482 5) ∧ w = some (rjPw (rjSc (S0 482) (298 + 36 * vs)) (fun k => S0 482 (730 + k)) i.toNat)))
theorem rxkSYR_1 {S0 : Nat → Int → Int} {ws : List Int} {S : Nat → Int → Int} {vs i : Int} (hP : rxPSYR S0 ws) (hin : bx_same rxL (bx_mdl rxC168.2.2.1) S0 S) (I0 : bx_Inv rxL S) (hinv : rxISYR_1 S0 ws S vs i) (l8 : 0 ≤ vs) (u8 : vs ≤ 11) (l9 : 0 ≤ i) (u9 : i ≤ 11) : rxPPCR S [480, vs] ∧ ∀ (S_p : Nat → Int → Int), rxPSPCR S [480, vs] S_p none → bx_Inv rxL S_p → bx_same rxL (bx_mdl rxCPCR.2.2.1) S S_p → rxISYR_2 S0 ws S_p vs i ∧ rxmSYR_2 S0 ws S_p vs i < rxmSYR_1 S0 ws S vs i := by
  obtain ⟨hS, hw, hg⟩ := hinv
  have hu : ∀ (p : Nat) (j : Int), p ≠ 480 → S p j = S0 p j := fun p j hp => by rw [hS]; exact bx_up_ne (by omega)
  have e482 : S 482 = S0 482 := funext fun j => hu 482 j (by decide)
  refine ⟨trivial, fun S_p hq _ hsm => ⟨?_, by unfold rxmSYR_1 rxmSYR_2; omega⟩⟩
  obtain ⟨-, v2, hw3, hf, hx⟩ := hq
  have k1 : vs = v2 := Option.some.inj (congrArg (fun l : List Int => l[1]?) hw3)
  subst k1
  rw [e482] at hf hx
  exact ⟨hw, hg, hf, hx⟩
theorem rxsSYR_1 {X : (Nat → Int → Int) → Prop} {S0 : Nat → Int → Int} {ws : List Int} (hP : rxPSYR S0 ws) : rx_obK X S0 rxC168.2.2.1 rxCPCR.2.2.1 (rxISYR S0 ws) (rxmSYR S0 ws) 1 2 rxzSYR_1 rxzSYR_2 [.inr (3, (0, 480)), .inr (0, (8, 0))] none rxPPCR rxPSPCR := by
  intro S r hinv hXS I0 hin hs_ hf_
  have b_ := bx_bds_sat hs_
  have f_ := bx_fcl_ok hs_.1 hf_
  obtain ⟨⟨l8, u8⟩, ⟨l9, u9⟩, -⟩ := b_
  have g := rxkSYR_1 hP hin I0 hinv l8 u8 l9 u9
  have ea : List.map (bx_num r) [.inr (3, (0, 480)), .inr (0, (8, 0))] = [480, (r 8)] := by
    simp only [List.map_cons, List.map_nil, bx_xv_ok hs_.1]
    rfl
  rw [ea]
  refine ⟨g.1, fun S_p w r_p hPS hX_p I1 hsm hr hw hs_p => ?_⟩
  have hw : w = none := hPS.1
  subst hw
  have g2 := g.2 S_p hPS I1 hsm
  show rxISYR_2 S0 ws S_p (r_p 8) (r_p 9) ∧ rxmSYR_2 S0 ws S_p (r_p 8) (r_p 9) < _
  rw [hr 8 (by decide), hr 9 (by decide)]
  exact g2
theorem rxcSYR_0_0 {S0 : Nat → Int → Int} {ws : List Int} {S : Nat → Int → Int} {vs i x10 x11 : Int} (hP : rxPSYR S0 ws) (hin : bx_same rxL (bx_mdl rxC168.2.2.1) S0 S) (I0 : bx_Inv rxL S) (hinv : rxISYR_0 S0 ws S vs i) (l8 : 0 ≤ vs) (u8 : vs ≤ 11) (l9 : 0 ≤ i) (u9 : i ≤ 11) (l10 : 1 ≤ x10) (u10 : x10 ≤ 12) (l11 : 1 ≤ x11) (u11 : x11 ≤ 12) (f0 : i ≤ x11 + (-1)) (f1 : vs ≤ x10 + (-1)) (e1 : (bx_up S 480 0 0) 482 2 = x10) (e0 : (bx_up S 480 0 0) 482 5 = x11) : (True) ∧ (True) ∧ rxISYR_1 S0 ws (bx_up S 480 0 0) vs i ∧ rxmSYR_1 S0 ws (bx_up S 480 0 0) vs i < rxmSYR_0 S0 ws S vs i := by
  obtain ⟨rfl, hw⟩ := hinv
  have qe1 := e1
  rw [bx_up_ne (by omega)] at qe1
  have qe0 := e0
  rw [bx_up_ne (by omega)] at qe0
  exact ⟨trivial, trivial, ⟨rfl, hw, by omega⟩, by unfold rxmSYR_0 rxmSYR_1; omega⟩
theorem rxgSYR_0_0 {X : (Nat → Int → Int) → Prop} {S0 : Nat → Int → Int} {ws : List Int} (hP : rxPSYR S0 ws) : bx_obC rxL X S0 rxC168.2.2.1 (rxISYR S0 ws) (rxmSYR S0 ws) 0 rxzSYR_0 rxoSYR_0_0 := by
  intro S S_p r r_p hinv hX hin hsm_ hseg
  obtain ⟨I0, I1, h0_, hr_, b_, f_, d_⟩ := bx_cl (evs := [(0, (0, 482), (0, 5), .inr (0, (11, 0))), (0, (0, 482), (0, 2), .inr (0, (10, 0))), (1, (0, 480), (0, 0), .inr (0, (0, 0)))]) (fvs := [(1, (9, 0), (11, (-1)), (0, 0)), (1, (8, 0), (10, (-1)), (0, 0))]) hseg (by decide +kernel) (by decide +kernel)
  have hinv : rxISYR_0 S0 ws S (r 8) (r 9) := hinv
  rw [← hr_ 8 (by decide), ← hr_ 9 (by decide)] at hinv
  obtain ⟨⟨l8, u8⟩, ⟨l9, u9⟩, ⟨l10, u10⟩, ⟨l11, u11⟩, -⟩ := b_
  obtain ⟨f0, f1, -⟩ := f_
  obtain ⟨e0, ⟨e1, ⟨T2, w_, w2⟩⟩⟩ := d_
  subst w2
  subst w_
  have g := rxcSYR_0_0 hP hin I0 hinv l8 u8 l9 u9 l10 u10 l11 u11 f0 f1 e1 e0
  refine ⟨bx_narP_ok (l := []) g.1, bx_nfP_ok h0_ (fvs := []) (by decide +kernel) g.2.1, ?_, ?_⟩
  · show rxISYR_1 S0 ws (bx_up T2 480 (0) (0)) (bx_val [(0, 0), (0, 0), (0, 0), (0, 0), (0, 0), (0, 0), (0, 0), (0, 0), (8, 0), (9, 0)] r_p 8) (bx_val [(0, 0), (0, 0), (0, 0), (0, 0), (0, 0), (0, 0), (0, 0), (0, 0), (8, 0), (9, 0)] r_p 9)
    rw [bx_val_x (n := 8) (e := (8, 0)) h0_ rfl, bx_val_x (n := 9) (e := (9, 0)) h0_ rfl]
    exact g.2.2.1
  · show rxmSYR_1 S0 ws (bx_up T2 480 (0) (0)) (bx_val [(0, 0), (0, 0), (0, 0), (0, 0), (0, 0), (0, 0), (0, 0), (0, 0), (8, 0), (9, 0)] r_p 8) (bx_val [(0, 0), (0, 0), (0, 0), (0, 0), (0, 0), (0, 0), (0, 0), (0, 0), (8, 0), (9, 0)] r_p 9) < rxmSYR_0 S0 ws T2 (r 8) (r 9)
    rw [bx_val_x (n := 8) (e := (8, 0)) h0_ rfl, bx_val_x (n := 9) (e := (9, 0)) h0_ rfl, ← hr_ 8 (by decide), ← hr_ 9 (by decide)]
    exact g.2.2.2
theorem rxdSYR_0_0 {S0 : Nat → Int → Int} {ws : List Int} {S : Nat → Int → Int} {vs i x10 x11 : Int} (hP : rxPSYR S0 ws) (hin : bx_same rxL (bx_mdl rxC168.2.2.1) S0 S) (hin2 : bx_same rxL (bx_mdl rxC168.2.2.1) S (bx_up S 480 0 0)) (I0 : bx_Inv rxL S) (I1 : bx_Inv rxL (bx_up S 480 0 0)) (hinv : rxISYR_0 S0 ws S vs i) (l8 : 0 ≤ vs) (u8 : vs ≤ 11) (l9 : (-2147483648) ≤ i) (u9 : i ≤ (-1)) (l10 : 1 ≤ x10) (u10 : x10 ≤ 12) (l11 : 0 ≤ x11) (u11 : x11 ≤ 12) (f0 : vs ≤ x10 + (-1)) (e1 : (bx_up S 480 0 0) 482 2 = x10) (e0 : (bx_up S 480 0 0) 482 5 = x11) : (True) ∧ rxPSSYR S0 ws (bx_up S 480 0 0) (some ((-1))) := by
  obtain ⟨rfl, hw⟩ := hinv
  have qe1 := e1
  rw [bx_up_ne (by omega)] at qe1
  have qe0 := e0
  rw [bx_up_ne (by omega)] at qe0
  exact ⟨trivial, vs, i, hw, Or.inl ⟨by omega, rfl⟩⟩
theorem rxfSYR_0_0 {X : (Nat → Int → Int) → Prop} {S0 : Nat → Int → Int} {ws : List Int} (hP : rxPSYR S0 ws) : bx_obE rxL X S0 rxC168.2.2.1 (rxISYR S0 ws) (rxPSSYR S0 ws) 0 rxzSYR_0 rxeSYR_0_0 := by
  intro S S_p r r_p hinv hX hin hsm_ hseg
  obtain ⟨I0, I1, h0_, hr_, b_, f_, d_⟩ := bx_cl (evs := [(0, (0, 482), (0, 5), .inr (0, (11, 0))), (0, (0, 482), (0, 2), .inr (0, (10, 0))), (1, (0, 480), (0, 0), .inr (0, (0, 0)))]) (fvs := [(1, (8, 0), (10, (-1)), (0, 0))]) hseg (by decide +kernel) (by decide +kernel)
  have hinv : rxISYR_0 S0 ws S (r 8) (r 9) := hinv
  rw [← hr_ 8 (by decide), ← hr_ 9 (by decide)] at hinv
  obtain ⟨⟨l8, u8⟩, ⟨l9, u9⟩, ⟨l10, u10⟩, ⟨l11, u11⟩, -⟩ := b_
  obtain ⟨f0, -⟩ := f_
  obtain ⟨e0, ⟨e1, ⟨T2, w_, w2⟩⟩⟩ := d_
  subst w2
  subst w_
  have g := rxdSYR_0_0 hP hin hsm_ I0 I1 hinv l8 u8 l9 u9 l10 u10 l11 u11 f0 e1 e0
  refine ⟨bx_narP_ok (l := []) g.1, ?_⟩
  show rxPSSYR S0 ws (bx_up T2 480 (0) (0)) (some (bx_num r_p (.inr (0, (0, (-1))))))
  rw [bx_xv_ok h0_]
  exact g.2
theorem rxdSYR_0_1 {S0 : Nat → Int → Int} {ws : List Int} {S : Nat → Int → Int} {vs i x10 x11 : Int} (hP : rxPSYR S0 ws) (hin : bx_same rxL (bx_mdl rxC168.2.2.1) S0 S) (hin2 : bx_same rxL (bx_mdl rxC168.2.2.1) S (bx_up S 480 0 0)) (I0 : bx_Inv rxL S) (I1 : bx_Inv rxL (bx_up S 480 0 0)) (hinv : rxISYR_0 S0 ws S vs i) (l8 : 0 ≤ vs) (u8 : vs ≤ 11) (l9 : 0 ≤ i) (u9 : i ≤ 2147483647) (l10 : 1 ≤ x10) (u10 : x10 ≤ 12) (l11 : 0 ≤ x11) (u11 : x11 ≤ 12) (f0 : x11 + (-1) < i) (f1 : vs ≤ x10 + (-1)) (e1 : (bx_up S 480 0 0) 482 2 = x10) (e0 : (bx_up S 480 0 0) 482 5 = x11) : (True) ∧ rxPSSYR S0 ws (bx_up S 480 0 0) (some ((-1))) := by
  obtain ⟨rfl, hw⟩ := hinv
  have qe1 := e1
  rw [bx_up_ne (by omega)] at qe1
  have qe0 := e0
  rw [bx_up_ne (by omega)] at qe0
  exact ⟨trivial, vs, i, hw, Or.inl ⟨by omega, rfl⟩⟩
theorem rxfSYR_0_1 {X : (Nat → Int → Int) → Prop} {S0 : Nat → Int → Int} {ws : List Int} (hP : rxPSYR S0 ws) : bx_obE rxL X S0 rxC168.2.2.1 (rxISYR S0 ws) (rxPSSYR S0 ws) 0 rxzSYR_0 rxeSYR_0_1 := by
  intro S S_p r r_p hinv hX hin hsm_ hseg
  obtain ⟨I0, I1, h0_, hr_, b_, f_, d_⟩ := bx_cl (evs := [(0, (0, 482), (0, 5), .inr (0, (11, 0))), (0, (0, 482), (0, 2), .inr (0, (10, 0))), (1, (0, 480), (0, 0), .inr (0, (0, 0)))]) (fvs := [(0, (11, (-1)), (9, 0), (0, 0)), (1, (8, 0), (10, (-1)), (0, 0))]) hseg (by decide +kernel) (by decide +kernel)
  have hinv : rxISYR_0 S0 ws S (r 8) (r 9) := hinv
  rw [← hr_ 8 (by decide), ← hr_ 9 (by decide)] at hinv
  obtain ⟨⟨l8, u8⟩, ⟨l9, u9⟩, ⟨l10, u10⟩, ⟨l11, u11⟩, -⟩ := b_
  obtain ⟨f0, f1, -⟩ := f_
  obtain ⟨e0, ⟨e1, ⟨T2, w_, w2⟩⟩⟩ := d_
  subst w2
  subst w_
  have g := rxdSYR_0_1 hP hin hsm_ I0 I1 hinv l8 u8 l9 u9 l10 u10 l11 u11 f0 f1 e1 e0
  refine ⟨bx_narP_ok (l := []) g.1, ?_⟩
  show rxPSSYR S0 ws (bx_up T2 480 (0) (0)) (some (bx_num r_p (.inr (0, (0, (-1))))))
  rw [bx_xv_ok h0_]
  exact g.2
theorem rxdSYR_0_2 {S0 : Nat → Int → Int} {ws : List Int} {S : Nat → Int → Int} {vs i x10 : Int} (hP : rxPSYR S0 ws) (hin : bx_same rxL (bx_mdl rxC168.2.2.1) S0 S) (hin2 : bx_same rxL (bx_mdl rxC168.2.2.1) S (bx_up S 480 0 0)) (I0 : bx_Inv rxL S) (I1 : bx_Inv rxL (bx_up S 480 0 0)) (hinv : rxISYR_0 S0 ws S vs i) (l8 : 0 ≤ vs) (u8 : vs ≤ 2147483647) (l9 : (-2147483648) ≤ i) (u9 : i ≤ 2147483647) (l10 : 0 ≤ x10) (u10 : x10 ≤ 12) (f0 : x10 + (-1) < vs) (e0 : (bx_up S 480 0 0) 482 2 = x10) : (True) ∧ rxPSSYR S0 ws (bx_up S 480 0 0) (some ((-1))) := by
  obtain ⟨rfl, hw⟩ := hinv
  have qe0 := e0
  rw [bx_up_ne (by omega)] at qe0
  exact ⟨trivial, vs, i, hw, Or.inl ⟨by omega, rfl⟩⟩
theorem rxfSYR_0_2 {X : (Nat → Int → Int) → Prop} {S0 : Nat → Int → Int} {ws : List Int} (hP : rxPSYR S0 ws) : bx_obE rxL X S0 rxC168.2.2.1 (rxISYR S0 ws) (rxPSSYR S0 ws) 0 rxzSYR_0 rxeSYR_0_2 := by
  intro S S_p r r_p hinv hX hin hsm_ hseg
  obtain ⟨I0, I1, h0_, hr_, b_, f_, d_⟩ := bx_cl (evs := [(0, (0, 482), (0, 2), .inr (0, (10, 0))), (1, (0, 480), (0, 0), .inr (0, (0, 0)))]) (fvs := [(0, (10, (-1)), (8, 0), (0, 0))]) hseg (by decide +kernel) (by decide +kernel)
  have hinv : rxISYR_0 S0 ws S (r 8) (r 9) := hinv
  rw [← hr_ 8 (by decide), ← hr_ 9 (by decide)] at hinv
  obtain ⟨⟨l8, u8⟩, ⟨l9, u9⟩, ⟨l10, u10⟩, -⟩ := b_
  obtain ⟨f0, -⟩ := f_
  obtain ⟨e0, ⟨T1, w_, w1⟩⟩ := d_
  subst w1
  subst w_
  have g := rxdSYR_0_2 hP hin hsm_ I0 I1 hinv l8 u8 l9 u9 l10 u10 f0 e0
  refine ⟨bx_narP_ok (l := []) g.1, ?_⟩
  show rxPSSYR S0 ws (bx_up T1 480 (0) (0)) (some (bx_num r_p (.inr (0, (0, (-1))))))
  rw [bx_xv_ok h0_]
  exact g.2
theorem rxdSYR_0_3 {S0 : Nat → Int → Int} {ws : List Int} {S : Nat → Int → Int} {vs i x10 : Int} (hP : rxPSYR S0 ws) (hin : bx_same rxL (bx_mdl rxC168.2.2.1) S0 S) (hin2 : bx_same rxL (bx_mdl rxC168.2.2.1) S (bx_up S 480 0 0)) (I0 : bx_Inv rxL S) (I1 : bx_Inv rxL (bx_up S 480 0 0)) (hinv : rxISYR_0 S0 ws S vs i) (l8 : (-2147483648) ≤ vs) (u8 : vs ≤ (-1)) (l9 : (-2147483648) ≤ i) (u9 : i ≤ 2147483647) (l10 : 0 ≤ x10) (u10 : x10 ≤ 12) (e0 : (bx_up S 480 0 0) 482 2 = x10) : (True) ∧ rxPSSYR S0 ws (bx_up S 480 0 0) (some ((-1))) := by
  obtain ⟨rfl, hw⟩ := hinv
  have qe0 := e0
  rw [bx_up_ne (by omega)] at qe0
  exact ⟨trivial, vs, i, hw, Or.inl ⟨by omega, rfl⟩⟩
theorem rxfSYR_0_3 {X : (Nat → Int → Int) → Prop} {S0 : Nat → Int → Int} {ws : List Int} (hP : rxPSYR S0 ws) : bx_obE rxL X S0 rxC168.2.2.1 (rxISYR S0 ws) (rxPSSYR S0 ws) 0 rxzSYR_0 rxeSYR_0_3 := by
  intro S S_p r r_p hinv hX hin hsm_ hseg
  obtain ⟨I0, I1, h0_, hr_, b_, f_, d_⟩ := bx_cl (evs := [(0, (0, 482), (0, 2), .inr (0, (10, 0))), (1, (0, 480), (0, 0), .inr (0, (0, 0)))]) (fvs := []) hseg (by decide +kernel) (by decide +kernel)
  have hinv : rxISYR_0 S0 ws S (r 8) (r 9) := hinv
  rw [← hr_ 8 (by decide), ← hr_ 9 (by decide)] at hinv
  obtain ⟨⟨l8, u8⟩, ⟨l9, u9⟩, ⟨l10, u10⟩, -⟩ := b_
  obtain ⟨e0, ⟨T1, w_, w1⟩⟩ := d_
  subst w1
  subst w_
  have g := rxdSYR_0_3 hP hin hsm_ I0 I1 hinv l8 u8 l9 u9 l10 u10 e0
  refine ⟨bx_narP_ok (l := []) g.1, ?_⟩
  show rxPSSYR S0 ws (bx_up T1 480 (0) (0)) (some (bx_num r_p (.inr (0, (0, (-1))))))
  rw [bx_xv_ok h0_]
  exact g.2
theorem rxdSYR_2_0 {S0 : Nat → Int → Int} {ws : List Int} {S : Nat → Int → Int} {vs i x10 : Int} (hP : rxPSYR S0 ws) (hin : bx_same rxL (bx_mdl rxC168.2.2.1) S0 S) (hin2 : bx_same rxL (bx_mdl rxC168.2.2.1) S S) (I0 : bx_Inv rxL S) (I1 : bx_Inv rxL S) (hinv : rxISYR_2 S0 ws S vs i) (l8 : 0 ≤ vs) (u8 : vs ≤ 11) (l9 : 0 ≤ i) (u9 : i ≤ 11) (l10 : 0 ≤ x10) (u10 : x10 ≤ 11) (f0 : x10 ≤ i) (f1 : x10 ≠ (-1)) (e0 : S 480 37 = x10) : (True) ∧ rxPSSYR S0 ws S (some 100) := by
  obtain ⟨hw, hg, hf, hx⟩ := hinv
  have hki : ((i.toNat : Nat) : Int) = i := Int.toNat_of_nonneg (by omega)
  refine ⟨trivial, vs, i, hw, Or.inr ⟨hg, ?_⟩⟩
  rcases hx with ⟨h1, -⟩ | ⟨j, h1, h2, h3, h4, h5⟩
  · exfalso
    omega
  · exact congrArg some (rjPw_le h4 h3 (by omega)).symm
theorem rxfSYR_2_0 {X : (Nat → Int → Int) → Prop} {S0 : Nat → Int → Int} {ws : List Int} (hP : rxPSYR S0 ws) : bx_obE rxL X S0 rxC168.2.2.1 (rxISYR S0 ws) (rxPSSYR S0 ws) 2 rxzSYR_2 rxeSYR_2_0 := by
  intro S S_p r r_p hinv hX hin hsm_ hseg
  obtain ⟨I0, I1, h0_, hr_, b_, f_, d_⟩ := bx_cl (evs := [(0, (0, 480), (0, 37), .inr (0, (10, 0)))]) (fvs := [(1, (10, 0), (9, 0), (0, 0)), (3, (10, 0), (0, (-1)), (0, 0))]) hseg (by decide +kernel) (by decide +kernel)
  have hinv : rxISYR_2 S0 ws S (r 8) (r 9) := hinv
  rw [← hr_ 8 (by decide), ← hr_ 9 (by decide)] at hinv
  obtain ⟨⟨l8, u8⟩, ⟨l9, u9⟩, ⟨l10, u10⟩, -⟩ := b_
  obtain ⟨f0, f1, -⟩ := f_
  obtain ⟨e0, w_⟩ := d_
  subst w_
  have g := rxdSYR_2_0 hP hin hsm_ I0 I1 hinv l8 u8 l9 u9 l10 u10 f0 f1 e0
  refine ⟨bx_narP_ok (l := []) g.1, ?_⟩
  show rxPSSYR S0 ws S_p (some (bx_num r_p (.inr (0, (0, 100)))))
  rw [bx_xv_ok h0_]
  exact g.2
theorem rxdSYR_2_1 {S0 : Nat → Int → Int} {ws : List Int} {S : Nat → Int → Int} {vs i x10 x11 : Int} (hP : rxPSYR S0 ws) (hin : bx_same rxL (bx_mdl rxC168.2.2.1) S0 S) (hin2 : bx_same rxL (bx_mdl rxC168.2.2.1) S S) (I0 : bx_Inv rxL S) (I1 : bx_Inv rxL S) (hinv : rxISYR_2 S0 ws S vs i) (l8 : 0 ≤ vs) (u8 : vs ≤ 11) (l9 : 0 ≤ i) (u9 : i ≤ 10) (l10 : 1 ≤ x10) (u10 : x10 ≤ 11) (l11 : (-1) ≤ x11) (u11 : x11 ≤ 9) (f0 : i < x10) (f1 : x10 ≠ (-1)) (e1 : S 480 37 = x10) (e0 : S 497 i = x11) : (True) ∧ rxPSSYR S0 ws S (some x11) := by
  obtain ⟨hw, hg, hf, hx⟩ := hinv
  have hki : ((i.toNat : Nat) : Int) = i := Int.toNat_of_nonneg (by omega)
  refine ⟨trivial, vs, i, hw, Or.inr ⟨hg, ?_⟩⟩
  have q : S 497 ((i.toNat : Nat) : Int) = x11 := by
    rw [hki]
    exact e0
  rcases hx with ⟨h1, h2⟩ | ⟨j, h1, h2, h3, h4, h5⟩
  · exact congrArg some (q.symm.trans (h2 i.toNat (by omega)).1)
  · exact congrArg some (q.symm.trans (h5 i.toNat (by omega)).1)
theorem rxfSYR_2_1 {X : (Nat → Int → Int) → Prop} {S0 : Nat → Int → Int} {ws : List Int} (hP : rxPSYR S0 ws) : bx_obE rxL X S0 rxC168.2.2.1 (rxISYR S0 ws) (rxPSSYR S0 ws) 2 rxzSYR_2 rxeSYR_2_1 := by
  intro S S_p r r_p hinv hX hin hsm_ hseg
  obtain ⟨I0, I1, h0_, hr_, b_, f_, d_⟩ := bx_cl (evs := [(0, (0, 497), (9, 0), .inr (0, (11, 0))), (0, (0, 480), (0, 37), .inr (0, (10, 0)))]) (fvs := [(0, (9, 0), (10, 0), (0, 0)), (3, (10, 0), (0, (-1)), (0, 0))]) hseg (by decide +kernel) (by decide +kernel)
  have hinv : rxISYR_2 S0 ws S (r 8) (r 9) := hinv
  rw [← hr_ 8 (by decide), ← hr_ 9 (by decide)] at hinv
  obtain ⟨⟨l8, u8⟩, ⟨l9, u9⟩, ⟨l10, u10⟩, ⟨l11, u11⟩, -⟩ := b_
  obtain ⟨f0, f1, -⟩ := f_
  obtain ⟨e0, ⟨e1, w_⟩⟩ := d_
  subst w_
  have g := rxdSYR_2_1 hP hin hsm_ I0 I1 hinv l8 u8 l9 u9 l10 u10 l11 u11 f0 f1 e1 e0
  refine ⟨bx_narP_ok (l := []) g.1, ?_⟩
  show rxPSSYR S0 ws S_p (some (bx_num r_p (.inr (0, (11, 0)))))
  rw [bx_xv_ok h0_]
  exact g.2
theorem rxdSYR_2_2 {S0 : Nat → Int → Int} {ws : List Int} {S : Nat → Int → Int} {vs i x10 x11 : Int} (hP : rxPSYR S0 ws) (hin : bx_same rxL (bx_mdl rxC168.2.2.1) S0 S) (hin2 : bx_same rxL (bx_mdl rxC168.2.2.1) S S) (I0 : bx_Inv rxL S) (I1 : bx_Inv rxL S) (hinv : rxISYR_2 S0 ws S vs i) (l8 : 0 ≤ vs) (u8 : vs ≤ 11) (l9 : 0 ≤ i) (u9 : i ≤ 11) (l10 : (-1) ≤ x10) (u10 : x10 ≤ (-1)) (l11 : (-1) ≤ x11) (u11 : x11 ≤ 9) (e1 : S 480 37 = x10) (e0 : S 497 i = x11) : (True) ∧ rxPSSYR S0 ws S (some x11) := by
  obtain ⟨hw, hg, hf, hx⟩ := hinv
  have hki : ((i.toNat : Nat) : Int) = i := Int.toNat_of_nonneg (by omega)
  refine ⟨trivial, vs, i, hw, Or.inr ⟨hg, ?_⟩⟩
  have q : S 497 ((i.toNat : Nat) : Int) = x11 := by
    rw [hki]
    exact e0
  rcases hx with ⟨h1, h2⟩ | ⟨j, h1, h2, h3, h4, h5⟩
  · exact congrArg some (q.symm.trans (h2 i.toNat (by omega)).1)
  · exact congrArg some (q.symm.trans (h5 i.toNat (by omega)).1)
theorem rxfSYR_2_2 {X : (Nat → Int → Int) → Prop} {S0 : Nat → Int → Int} {ws : List Int} (hP : rxPSYR S0 ws) : bx_obE rxL X S0 rxC168.2.2.1 (rxISYR S0 ws) (rxPSSYR S0 ws) 2 rxzSYR_2 rxeSYR_2_2 := by
  intro S S_p r r_p hinv hX hin hsm_ hseg
  obtain ⟨I0, I1, h0_, hr_, b_, f_, d_⟩ := bx_cl (evs := [(0, (0, 497), (9, 0), .inr (0, (11, 0))), (0, (0, 480), (0, 37), .inr (0, (10, 0)))]) (fvs := []) hseg (by decide +kernel) (by decide +kernel)
  have hinv : rxISYR_2 S0 ws S (r 8) (r 9) := hinv
  rw [← hr_ 8 (by decide), ← hr_ 9 (by decide)] at hinv
  obtain ⟨⟨l8, u8⟩, ⟨l9, u9⟩, ⟨l10, u10⟩, ⟨l11, u11⟩, -⟩ := b_
  obtain ⟨e0, ⟨e1, w_⟩⟩ := d_
  subst w_
  have g := rxdSYR_2_2 hP hin hsm_ I0 I1 hinv l8 u8 l9 u9 l10 u10 l11 u11 e1 e0
  refine ⟨bx_narP_ok (l := []) g.1, ?_⟩
  show rxPSSYR S0 ws S_p (some (bx_num r_p (.inr (0, (11, 0)))))
  rw [bx_xv_ok h0_]
  exact g.2
theorem rxgCSYR {X : (Nat → Int → Int) → Prop} {S0 : Nat → Int → Int} {ws : List Int} (hP : rxPSYR S0 ws) : bx_allI (fun i q => rxUSYR q = true ∨ bx_allP (fun o => bx_obC rxL X S0 rxC168.2.2.1 (rxISYR S0 ws) (rxmSYR S0 ws) i q.1 o) q.2.1) 0 rxYSYR := ⟨Or.inr ⟨rxgSYR_0_0 hP, trivial⟩, Or.inl rfl, Or.inr trivial, trivial⟩
theorem rxgESYR {X : (Nat → Int → Int) → Prop} {S0 : Nat → Int → Int} {ws : List Int} (hP : rxPSYR S0 ws) : bx_allI (fun i q => rxUSYR q = true ∨ bx_allP (fun E => bx_obE rxL X S0 rxC168.2.2.1 (rxISYR S0 ws) (rxPSSYR S0 ws) i q.1 E) q.2.2) 0 rxYSYR := ⟨Or.inr ⟨rxfSYR_0_0 hP, rxfSYR_0_1 hP, rxfSYR_0_2 hP, rxfSYR_0_3 hP, trivial⟩, Or.inl rfl, Or.inr ⟨rxfSYR_2_0 hP, rxfSYR_2_1 hP, rxfSYR_2_2 hP, trivial⟩, trivial⟩
theorem rxuSYR {PX : State → Prop} {Dg : va_G} {A : Nat → Prop} {ad xa : Nat → Nat} {l : Launch} {X : (Nat → Int → Int) → Prop} (hPX : rx_PXOK rxNW A PX) (hX : ∀ S S1 : Nat → Int → Int, X S → bx_same rxL (bx_mdl rxC168.2.2.1) S S1 → X S1) (hQPCR : bx_ConP rxG rxNW rxAO PX Dg rxL X vwCl A ad l rxM301 rxCPCR rxPPCR rxPSPCR) {S0 : Nat → Int → Int} {ws : List Int} (hP : rxPSYR S0 ws) : ∀ (i : Nat) (q : bx_HE), rxYSYR[i]? = some q → rxUSYR q = true → ∀ {p : Program} {e : Env} {R : Room} {s : State} {m : MethodId} {args : Array Value} {below : List Frame} {meth : Method} {c : Code} {Q : State → Prop} {H0 : Heap}, rx_Fr rxG rxNW rxAO PX p s m args meth c rxM168 → (∀ q, H0.size ≤ q → A q) → H0 = s.heap → rxM168.2.2.2.2.2.2.1 ≤ R.cells → rxM168.2.2.2.2.2.2.2 ≤ R.slots → rxC168.2.2.2.1 ≤ R.frames → rxC168.2.2.2.1 * 40 ≤ R.locals → bx_Step p l e R s m args below meth c Q Dg rxL X vwCl A xa H0 ad rxM168 rxYSYR (rxISYR S0 ws) (rxmSYR S0 ws) S0 rxC168.2.2.1 i q := by
  intro i q hq hus p e R s m args below meth c Q H0 hF hA hH0 hmc hms hd hdl
  match i, hq with
  | 0, hq =>
    cases hq
    exact absurd (show false = true from hus) Bool.false_ne_true
  | 1, hq =>
    cases hq
    exact rx_stepC (ins := .invokevirtual 486) (len := 3) (i_p := 2) (M_p := rxM301) (d := rxC168.2.2.2.1) (as := [.inr (3, (0, 480)), .inr (0, (8, 0))]) (t := []) (ct := rxCPCR) hPX hF rfl hA hH0 hmc hms hd hdl (by decide +kernel) rfl rfl (by decide +kernel) (by decide +kernel) hQPCR (by decide +kernel) rfl (Or.inl ⟨rfl, rfl, rfl⟩) (rxsSYR_1 hP)
  | 2, hq =>
    cases hq
    exact absurd (show false = true from hus) Bool.false_ne_true
  | n + 3, hq => cases hq
theorem rxQSYR {PX : State → Prop} {Dg : va_G} {A : Nat → Prop} {ad xa : Nat → Nat} {l : Launch} {X : (Nat → Int → Int) → Prop} (hPX : rx_PXOK rxNW A PX) (hsl : ∀ s : State, PX s → ∀ o idx n : Nat, rxSl o idx = some n → ∃ tx : String, vk_R (rxNm o) idx tx (ad n) s)
    (hX : ∀ S S_p : Nat → Int → Int, X S → bx_same rxL (bx_mdl rxC168.2.2.1) S S_p → X S_p)
    (ih : ∀ (j2 : Nat) (ct2 : bx_Ct) (M2 : rx_Mt), ct2 ∈ rxCnE j2 → ct2.2.2.2.1 + 1 ≤ rxC168.2.2.2.1 → rxT.2.2.2.2.2 j2 = some M2 → bx_Con rxG rxNW rxAO PX Dg rxL X vwCl A ad l M2 ct2) (hQPCR : bx_ConP rxG rxNW rxAO PX Dg rxL X vwCl A ad l rxM301 rxCPCR rxPPCR rxPSPCR) : bx_ConP rxG rxNW rxAO PX Dg rxL X vwCl A ad l rxM168 rxC168 rxPSYR rxPSSYR :=
  rxQof (xa := xa) (Cn := rxCnE) (f := 30000) (j := 168) (tab := rxYSYR) (us := rxUSYR) hPX hsl hX ih rfl rxYcSYR rxISYR rxmSYR
    (fun S0 ws r I0 I ht0 ht as he he1 hX0 hI0 hP hs ha => by
      have e := he.symm.trans (show bx_ent0 rxNP rxC168.1 bx_I0 [] = some ([(0, 0), (0, 0), (0, 0), (0, 0), (0, 0), (0, 0), (0, 0), (0, 0), ((-2147483648), 2147483647), ((-2147483648), 2147483647)], [], [.inr (3, (0, 480)), .inr (0, (8, 0)), .inr (0, (9, 0))]) from rfl)
      cases e
      subst ha
      have h0 : r 0 = 0 := hs.1
      show rxISYR_0 S0 _ S0 (r 8) (r 9)
      refine ⟨rfl, ?_⟩
      simp only [List.map_cons, List.map_nil, bx_xv_ok h0]
      rfl)
    (fun S0 ws hP => rxuSYR (xa := xa) hPX hX hQPCR hP) (fun S0 ws hP => rxgCSYR hP) (fun S0 ws hP => rxgESYR hP)