noncomputable def rxCBIK : bx_Ct := ([(0, (0, 20, 24))], some (0, (0, 5, 6)), [], 0, [])
noncomputable def rxIBIK_0 (S0 : Nat → Int → Int) (ws : List Int) (S : Nat → Int → Int) (op : Int) : Prop := rxIBI_0 S0 ws S op ∧ True
noncomputable def rxmBIK_0 (S0 : Nat → Int → Int) (ws : List Int) (S : Nat → Int → Int) (op : Int) : Nat := rxmBI_0 S0 ws S op
noncomputable def rxzBIK_0 : rx_Z := ([(0, 0), (0, 0), (0, 0), (0, 0), (0, 0), (0, 0), (0, 0), (0, 0), (20, 24)], [], [], 0, 0, 0, [(0, .inr (0, (8, 0)))], [])
noncomputable def rxeBIK_0_0 : rx_End × List (Nat × Int × Int) := (([(0, 0), (0, 0), (0, 0), (0, 0), (0, 0), (0, 0), (0, 0), (0, 0), (22, 24)], [(3, (8, 0), (0, 28)), (3, (8, 0), (0, 29)), (3, (8, 0), (0, 30))], [], some (.inr (0, (0, 6)))), [])
noncomputable def rxeBIK_0_1 : rx_End × List (Nat × Int × Int) := (([(0, 0), (0, 0), (0, 0), (0, 0), (0, 0), (0, 0), (0, 0), (0, 0), (20, 21)], [(3, (8, 0), (0, 28)), (3, (8, 0), (0, 29)), (3, (8, 0), (0, 30))], [], some (.inr (0, (0, 5)))), [])
noncomputable def rxYBIK : List bx_HE := [(rxzBIK_0, [], [rxeBIK_0_0, rxeBIK_0_1])]
noncomputable def rxUBIK (q : bx_HE) : Bool := false
noncomputable def rxYBBIK : bx_B := (rxV, rxNP, rxDmf, bx_mdH rxCBIK.2.2.1)
set_option maxRecDepth 100000 in
theorem rxYcBIK : bx_chkH rxYBBIK rxM24 rxCBIK rxYBIK (rxUBIK, fun cut z => rx_ex2 (rxCT rxYBBIK rxCnE) cut 30000 rxCBIK.2.2.2.1 24 z) = true := by decide +kernel
noncomputable def rxIBIK (S0 : Nat → Int → Int) (ws : List Int) (i : Nat) : bx_SP := fun S r => match i with | 0 => rxIBIK_0 S0 ws S (r 8) | _ => False
noncomputable def rxmBIK (S0 : Nat → Int → Int) (ws : List Int) (i : Nat) (S : Nat → Int → Int) (r : Nat → Int) : Nat := match i with | 0 => rxmBIK_0 S0 ws S (r 8) | _ => 0
noncomputable def rxPBIK (S0 : Nat → Int → Int) (ws : List Int) : Prop := rxPBI S0 ws
noncomputable def rxPSBIK (S0 : Nat → Int → Int) (ws : List Int) (S : Nat → Int → Int) (w : Option Int) : Prop := rxPSBI S0 ws S w ∧ (∃ op : Int, ws = [op] ∧ w = some (rkBd op))
theorem rxdBIK_0_0 {S0 : Nat → Int → Int} {ws : List Int} {S : Nat → Int → Int} {op : Int} (hP : rxPBIK S0 ws) (hin : bx_same rxL (bx_mdl rxCBIK.2.2.1) S0 S) (hin2 : bx_same rxL (bx_mdl rxCBIK.2.2.1) S S) (I0 : bx_Inv rxL S) (I1 : bx_Inv rxL S) (hinv : rxIBIK_0 S0 ws S op) (l8 : 22 ≤ op) (u8 : op ≤ 24) (f0 : op ≠ 28) (f1 : op ≠ 29) (f2 : op ≠ 30) : (True) ∧ rxPSBIK S0 ws S (some 6) := by
  obtain ⟨hI, hx⟩ := hinv
  obtain ⟨a_, c_⟩ := rxdBI_0_0 hP hin hin2 I0 I1 hI l8 u8 f0 f1 f2
  exact ⟨a_, c_, (by
    refine ⟨op, hI.2, congrArg some ?_⟩
    unfold rkBd
    (repeat' split) <;> omega)⟩
theorem rxfBIK_0_0 {X : (Nat → Int → Int) → Prop} {S0 : Nat → Int → Int} {ws : List Int} (hP : rxPBIK S0 ws) : bx_obE rxL X S0 rxCBIK.2.2.1 (rxIBIK S0 ws) (rxPSBIK S0 ws) 0 rxzBIK_0 rxeBIK_0_0 := by
  intro S S_p r r_p hinv hX hin hsm_ hseg
  obtain ⟨I0, I1, h0_, hr_, b_, f_, d_⟩ := bx_cl (evs := []) (fvs := [(3, (8, 0), (0, 28), (0, 0)), (3, (8, 0), (0, 29), (0, 0)), (3, (8, 0), (0, 30), (0, 0))]) hseg (by decide +kernel) (by decide +kernel)
  have hinv : rxIBIK_0 S0 ws S (r 8) := hinv
  rw [← hr_ 8 (by decide)] at hinv
  obtain ⟨⟨l8, u8⟩, -⟩ := b_
  obtain ⟨f0, f1, f2, -⟩ := f_
  have w_ := d_
  subst w_
  have g := rxdBIK_0_0 hP hin hsm_ I0 I1 hinv l8 u8 f0 f1 f2
  refine ⟨bx_narP_ok (l := []) g.1, ?_⟩
  show rxPSBIK S0 ws S_p (some (bx_num r_p (.inr (0, (0, 6)))))
  rw [bx_xv_ok h0_]
  exact g.2
theorem rxdBIK_0_1 {S0 : Nat → Int → Int} {ws : List Int} {S : Nat → Int → Int} {op : Int} (hP : rxPBIK S0 ws) (hin : bx_same rxL (bx_mdl rxCBIK.2.2.1) S0 S) (hin2 : bx_same rxL (bx_mdl rxCBIK.2.2.1) S S) (I0 : bx_Inv rxL S) (I1 : bx_Inv rxL S) (hinv : rxIBIK_0 S0 ws S op) (l8 : 20 ≤ op) (u8 : op ≤ 21) (f0 : op ≠ 28) (f1 : op ≠ 29) (f2 : op ≠ 30) : (True) ∧ rxPSBIK S0 ws S (some 5) := by
  obtain ⟨hI, hx⟩ := hinv
  obtain ⟨a_, c_⟩ := rxdBI_0_1 hP hin hin2 I0 I1 hI l8 u8 f0 f1 f2
  exact ⟨a_, c_, (by
    refine ⟨op, hI.2, congrArg some ?_⟩
    unfold rkBd
    (repeat' split) <;> omega)⟩
theorem rxfBIK_0_1 {X : (Nat → Int → Int) → Prop} {S0 : Nat → Int → Int} {ws : List Int} (hP : rxPBIK S0 ws) : bx_obE rxL X S0 rxCBIK.2.2.1 (rxIBIK S0 ws) (rxPSBIK S0 ws) 0 rxzBIK_0 rxeBIK_0_1 := by
  intro S S_p r r_p hinv hX hin hsm_ hseg
  obtain ⟨I0, I1, h0_, hr_, b_, f_, d_⟩ := bx_cl (evs := []) (fvs := [(3, (8, 0), (0, 28), (0, 0)), (3, (8, 0), (0, 29), (0, 0)), (3, (8, 0), (0, 30), (0, 0))]) hseg (by decide +kernel) (by decide +kernel)
  have hinv : rxIBIK_0 S0 ws S (r 8) := hinv
  rw [← hr_ 8 (by decide)] at hinv
  obtain ⟨⟨l8, u8⟩, -⟩ := b_
  obtain ⟨f0, f1, f2, -⟩ := f_
  have w_ := d_
  subst w_
  have g := rxdBIK_0_1 hP hin hsm_ I0 I1 hinv l8 u8 f0 f1 f2
  refine ⟨bx_narP_ok (l := []) g.1, ?_⟩
  show rxPSBIK S0 ws S_p (some (bx_num r_p (.inr (0, (0, 5)))))
  rw [bx_xv_ok h0_]
  exact g.2
theorem rxgCBIK {X : (Nat → Int → Int) → Prop} {S0 : Nat → Int → Int} {ws : List Int} (hP : rxPBIK S0 ws) : bx_allI (fun i q => rxUBIK q = true ∨ bx_allP (fun o => bx_obC rxL X S0 rxCBIK.2.2.1 (rxIBIK S0 ws) (rxmBIK S0 ws) i q.1 o) q.2.1) 0 rxYBIK := ⟨Or.inr trivial, trivial⟩
theorem rxgEBIK {X : (Nat → Int → Int) → Prop} {S0 : Nat → Int → Int} {ws : List Int} (hP : rxPBIK S0 ws) : bx_allI (fun i q => rxUBIK q = true ∨ bx_allP (fun E => bx_obE rxL X S0 rxCBIK.2.2.1 (rxIBIK S0 ws) (rxPSBIK S0 ws) i q.1 E) q.2.2) 0 rxYBIK := ⟨Or.inr ⟨rxfBIK_0_0 hP, rxfBIK_0_1 hP, trivial⟩, trivial⟩
theorem rxQBIK {PX : State → Prop} {Dg : va_G} {A : Nat → Prop} {ad xa : Nat → Nat} {l : Launch} {X : (Nat → Int → Int) → Prop} (hPX : rx_PXOK rxNW A PX) (hsl : ∀ s : State, PX s → ∀ o idx n : Nat, rxSl o idx = some n → ∃ tx : String, vk_R (rxNm o) idx tx (ad n) s)
    (hX : ∀ S S_p : Nat → Int → Int, X S → bx_same rxL (bx_mdl rxCBIK.2.2.1) S S_p → X S_p)
    (ih : ∀ (j2 : Nat) (ct2 : bx_Ct) (M2 : rx_Mt), ct2 ∈ rxCnE j2 → ct2.2.2.2.1 + 1 ≤ rxCBIK.2.2.2.1 → rxT.2.2.2.2.2 j2 = some M2 → bx_Con rxG rxNW rxAO PX Dg rxL X vwCl A ad l M2 ct2) : bx_ConP rxG rxNW rxAO PX Dg rxL X vwCl A ad l rxM24 rxCBIK rxPBIK rxPSBIK :=
  rxQof (xa := xa) (Cn := rxCnE) (f := 30000) (j := 24) (tab := rxYBIK) (us := rxUBIK) hPX hsl hX ih rfl rxYcBIK rxIBIK rxmBIK
    (fun S0 ws r I0 I ht0 ht as he he1 hX0 hI0 hP hs ha => by
      have e := he.symm.trans (show bx_ent0 rxNP rxCBIK.1 bx_I0 [] = some ([(0, 0), (0, 0), (0, 0), (0, 0), (0, 0), (0, 0), (0, 0), (0, 0), (20, 24)], [], [.inr (0, (8, 0))]) from rfl)
      cases e
      subst ha
      have h0 : r 0 = 0 := hs.1
      show rxIBIK_0 S0 _ S0 (r 8)
      refine ⟨⟨rfl, ?_⟩, trivial⟩
      simp only [List.map_cons, List.map_nil, bx_xv_ok h0]
      rfl)
    (fun S0 ws hP => fun i q hq hus => absurd (show false = true from hus) Bool.false_ne_true) (fun S0 ws hP => rxgCBIK hP) (fun S0 ws hP => rxgEBIK hP)
noncomputable def rxCBSK : bx_Ct := ([(3, (1, 480, 0)), (0, (0, 0, 1))], some (0, (0, 0, 4)), [(12, 9), (12, 10), (12, 11), (12, 12), (12, 13), (12, 14), (12, 18), (12, 21), (12, 24), (12, 25), (1068, 0), (1069, 0), (1070, 0), (1071, 0)], 5, [])
noncomputable def rxIBSK_0 (S0 : Nat → Int → Int) (ws : List Int) (S : Nat → Int → Int) (test : Int) : Prop := rxIBSW_0 S0 ws S test ∧ True
noncomputable def rxmBSK_0 (S0 : Nat → Int → Int) (ws : List Int) (S : Nat → Int → Int) (test : Int) : Nat := rxmBSW_0 S0 ws S test
noncomputable def rxzBSK_0 : rx_Z := ([(0, 0), (0, 0), (0, 0), (0, 0), (0, 0), (0, 0), (0, 0), (0, 0), (0, 1)], [], [], 0, 0, 0, [(0, .inr (3, (0, 480))), (1, .inr (0, (8, 0)))], [])
noncomputable def rxIBSK_1 (S0 : Nat → Int → Int) (ws : List Int) (S : Nat → Int → Int) (test op : Int) : Prop := rxIBSW_1 S0 ws S test op ∧ (rzDq S0 → op = -1 ∨ ((op = 20 ∧ rzCut (S0 485) (S0 480 9) = 43) ∨ (op = 21 ∧ rzCut (S0 485) (S0 480 9) = 45) ∨ (op = 22 ∧ rzCut (S0 485) (S0 480 9) = 42) ∨ (op = 23 ∧ rzCut (S0 485) (S0 480 9) = 47) ∨ (op = 24 ∧ rzCut (S0 485) (S0 480 9) = 37)))
noncomputable def rxmBSK_1 (S0 : Nat → Int → Int) (ws : List Int) (S : Nat → Int → Int) (test op : Int) : Nat := rxmBSW_1 S0 ws S test op
noncomputable def rxzBSK_1 : rx_Z := ([(0, 0), (0, 0), (0, 0), (0, 0), (0, 0), (0, 0), (0, 0), (0, 0), (0, 1), ((-1), 24)], [], [], 0, 0, 72, [(0, .inr (3, (0, 480))), (1, .inr (0, (8, 0))), (2, .inr (0, (9, 0)))], [])
noncomputable def rxIBSK_2 (S0 : Nat → Int → Int) (ws : List Int) (S : Nat → Int → Int) (test op op2 : Int) : Prop := rxIBSW_2 S0 ws S test op op2 ∧ op2 = op ∧ (rzDq S0 → op = -1 ∨ ((op = 20 ∧ rzCut (S0 485) (S0 480 9) = 43) ∨ (op = 21 ∧ rzCut (S0 485) (S0 480 9) = 45) ∨ (op = 22 ∧ rzCut (S0 485) (S0 480 9) = 42) ∨ (op = 23 ∧ rzCut (S0 485) (S0 480 9) = 47) ∨ (op = 24 ∧ rzCut (S0 485) (S0 480 9) = 37)))
noncomputable def rxmBSK_2 (S0 : Nat → Int → Int) (ws : List Int) (S : Nat → Int → Int) (test op op2 : Int) : Nat := rxmBSW_2 S0 ws S test op op2
noncomputable def rxzBSK_2 : rx_Z := ([(0, 0), (0, 0), (0, 0), (0, 0), (0, 0), (0, 0), (0, 0), (0, 0), (0, 1), (20, 24), (20, 24)], [], [], 0, 0, 79, [(0, .inr (3, (0, 480))), (1, .inr (0, (8, 0))), (2, .inr (0, (9, 0)))], [.inr (0, (10, 0)), .inr (3, (0, 480))])
noncomputable def rxIBSK_3 (S0 : Nat → Int → Int) (ws : List Int) (S : Nat → Int → Int) (test op op2 bd : Int) : Prop := rxIBSW_3 S0 ws S test op op2 bd ∧ op2 = op ∧ (rzDq S0 → op = -1 ∨ ((op = 20 ∧ rzCut (S0 485) (S0 480 9) = 43) ∨ (op = 21 ∧ rzCut (S0 485) (S0 480 9) = 45) ∨ (op = 22 ∧ rzCut (S0 485) (S0 480 9) = 42) ∨ (op = 23 ∧ rzCut (S0 485) (S0 480 9) = 47) ∨ (op = 24 ∧ rzCut (S0 485) (S0 480 9) = 37))) ∧ bd = rkBd op
noncomputable def rxmBSK_3 (S0 : Nat → Int → Int) (ws : List Int) (S : Nat → Int → Int) (test op op2 bd : Int) : Nat := rxmBSW_3 S0 ws S test op op2 bd
noncomputable def rxzBSK_3 : rx_Z := ([(0, 0), (0, 0), (0, 0), (0, 0), (0, 0), (0, 0), (0, 0), (0, 0), (0, 1), (20, 24), (20, 24), (5, 6)], [], [], 0, 0, 82, [(0, .inr (3, (0, 480))), (1, .inr (0, (8, 0))), (2, .inr (0, (9, 0)))], [.inr (0, (11, 0)), .inr (3, (0, 480))])
noncomputable def rxIBSK_4 (S0 : Nat → Int → Int) (ws : List Int) (S : Nat → Int → Int) (test op op2 bd : Int) : Prop := rxIBSW_4 S0 ws S test op op2 bd ∧ op2 = op ∧ (rzDq S0 → op = -1 ∨ ((op = 20 ∧ rzCut (S0 485) (S0 480 9) = 43) ∨ (op = 21 ∧ rzCut (S0 485) (S0 480 9) = 45) ∨ (op = 22 ∧ rzCut (S0 485) (S0 480 9) = 42) ∨ (op = 23 ∧ rzCut (S0 485) (S0 480 9) = 47) ∨ (op = 24 ∧ rzCut (S0 485) (S0 480 9) = 37))) ∧ (∀ (b : Int) (c : rkC), rkMd S0 b c → rkW c → rkMd S b (rkRed (rkBd op) c) ∧ rkFm S0 S b)
noncomputable def rxmBSK_4 (S0 : Nat → Int → Int) (ws : List Int) (S : Nat → Int → Int) (test op op2 bd : Int) : Nat := rxmBSW_4 S0 ws S test op op2 bd
noncomputable def rxzBSK_4 : rx_Z := ([(0, 0), (0, 0), (0, 0), (0, 0), (0, 0), (0, 0), (0, 0), (0, 0), (0, 1), (20, 24), (20, 24), (5, 6)], [], [], 0, 0, 85, [(0, .inr (3, (0, 480))), (1, .inr (0, (8, 0))), (2, .inr (0, (9, 0)))], [])
noncomputable def rxIBSK_5 (S0 : Nat → Int → Int) (ws : List Int) (S : Nat → Int → Int) (test op op2 : Int) : Prop := rxIBSW_5 S0 ws S test op op2 ∧ op2 = op ∧ (rzDq S0 → op = -1 ∨ ((op = 20 ∧ rzCut (S0 485) (S0 480 9) = 43) ∨ (op = 21 ∧ rzCut (S0 485) (S0 480 9) = 45) ∨ (op = 22 ∧ rzCut (S0 485) (S0 480 9) = 42) ∨ (op = 23 ∧ rzCut (S0 485) (S0 480 9) = 47) ∨ (op = 24 ∧ rzCut (S0 485) (S0 480 9) = 37))) ∧ (∀ (b : Int) (c : rkC), rkMd S0 b c → rkW c → rkMd S b (rkRed (rkBd op) c) ∧ rkFm S0 S b)
noncomputable def rxmBSK_5 (S0 : Nat → Int → Int) (ws : List Int) (S : Nat → Int → Int) (test op op2 : Int) : Nat := rxmBSW_5 S0 ws S test op op2
noncomputable def rxzBSK_5 : rx_Z := ([(0, 0), (0, 0), (0, 0), (0, 0), (0, 0), (0, 0), (0, 0), (0, 0), (0, 1), (20, 24), (20, 24)], [], [], 0, 0, 88, [(0, .inr (3, (0, 480))), (1, .inr (0, (8, 0))), (2, .inr (0, (9, 0)))], [.inr (0, (0, 0)), .inr (0, (10, 0)), .inr (3, (0, 480))])
noncomputable def rxIBSK_6 (S0 : Nat → Int → Int) (ws : List Int) (S : Nat → Int → Int) (test op op2 : Int) : Prop := rxIBSW_6 S0 ws S test op op2 ∧ (rzDq S0 → op = -1 ∨ ((op = 20 ∧ rzCut (S0 485) (S0 480 9) = 43) ∨ (op = 21 ∧ rzCut (S0 485) (S0 480 9) = 45) ∨ (op = 22 ∧ rzCut (S0 485) (S0 480 9) = 42) ∨ (op = 23 ∧ rzCut (S0 485) (S0 480 9) = 47) ∨ (op = 24 ∧ rzCut (S0 485) (S0 480 9) = 37))) ∧ (∀ (b : Int) (c : rkC), rkMd S0 b c → rkW c → rkMd S b (rkPush op 0 (rkRed (rkBd op) c)) ∧ rkFm S0 S b)
noncomputable def rxmBSK_6 (S0 : Nat → Int → Int) (ws : List Int) (S : Nat → Int → Int) (test op op2 : Int) : Nat := rxmBSW_6 S0 ws S test op op2
noncomputable def rxzBSK_6 : rx_Z := ([(0, 0), (0, 0), (0, 0), (0, 0), (0, 0), (0, 0), (0, 0), (0, 0), (0, 1), (20, 24), (20, 24)], [], [], 0, 0, 91, [(0, .inr (3, (0, 480))), (1, .inr (0, (8, 0))), (2, .inr (0, (9, 0)))], [])
noncomputable def rxIBSK_7 (S0 : Nat → Int → Int) (ws : List Int) (S : Nat → Int → Int) (test op : Int) : Prop := rxIBSW_7 S0 ws S test op ∧ (rzDq S0 → op = -1 ∨ ((op = 20 ∧ rzCut (S0 485) (S0 480 9) = 43) ∨ (op = 21 ∧ rzCut (S0 485) (S0 480 9) = 45) ∨ (op = 22 ∧ rzCut (S0 485) (S0 480 9) = 42) ∨ (op = 23 ∧ rzCut (S0 485) (S0 480 9) = 47) ∨ (op = 24 ∧ rzCut (S0 485) (S0 480 9) = 37))) ∧ (∀ (b : Int) (c : rkC), rkMd S0 b c → rkW c → rkMd S b (rkPush op 0 (rkRed (rkBd op) c)) ∧ rkFm S0 S b)
noncomputable def rxmBSK_7 (S0 : Nat → Int → Int) (ws : List Int) (S : Nat → Int → Int) (test op : Int) : Nat := rxmBSW_7 S0 ws S test op
noncomputable def rxzBSK_7 : rx_Z := ([(0, 0), (0, 0), (0, 0), (0, 0), (0, 0), (0, 0), (0, 0), (0, 0), (0, 1), (20, 24)], [], [], 0, 0, 92, [(0, .inr (3, (0, 480))), (1, .inr (0, (8, 0))), (2, .inr (0, (9, 0)))], [.inr (3, (0, 480))])
noncomputable def rxIBSK_8 (S0 : Nat → Int → Int) (ws : List Int) (S : Nat → Int → Int) (test op : Int) : Prop := rxIBSW_8 S0 ws S test op ∧ (rzCk S0 → rzDq S0 → ∀ (tst s : Int) (rest : List Int), ws = [480, tst] → rzSr S0 tst (s :: rest) → (s = 0 ∨ s = 2 ∨ s = 3) → rkTq S0 S (s :: rest) true)
noncomputable def rxmBSK_8 (S0 : Nat → Int → Int) (ws : List Int) (S : Nat → Int → Int) (test op : Int) : Nat := rxmBSW_8 S0 ws S test op
noncomputable def rxzBSK_8 : rx_Z := ([(0, 0), (0, 0), (0, 0), (0, 0), (0, 0), (0, 0), (0, 0), (0, 0), (0, 1), (20, 24)], [], [], 0, 0, 95, [(0, .inr (3, (0, 480))), (1, .inr (0, (8, 0))), (2, .inr (0, (9, 0)))], [])
noncomputable def rxIBSK_9 (S0 : Nat → Int → Int) (ws : List Int) (S : Nat → Int → Int) (test : Int) : Prop := rxIBSW_9 S0 ws S test ∧ True
noncomputable def rxmBSK_9 (S0 : Nat → Int → Int) (ws : List Int) (S : Nat → Int → Int) (test : Int) : Nat := rxmBSW_9 S0 ws S test
noncomputable def rxzBSK_9 : rx_Z := ([(0, 0), (0, 0), (0, 0), (0, 0), (0, 0), (0, 0), (0, 0), (0, 0), (0, 1)], [], [], 0, 0, 98, [(0, .inr (3, (0, 480))), (1, .inr (0, (8, 0)))], [.inr (3, (0, 480))])
noncomputable def rxIBSK_10 (S0 : Nat → Int → Int) (ws : List Int) (S : Nat → Int → Int) (test its : Int) : Prop := rxIBSW_10 S0 ws S test its ∧ True
noncomputable def rxmBSK_10 (S0 : Nat → Int → Int) (ws : List Int) (S : Nat → Int → Int) (test its : Int) : Nat := rxmBSW_10 S0 ws S test its
noncomputable def rxzBSK_10 : rx_Z := ([(0, 0), (0, 0), (0, 0), (0, 0), (0, 0), (0, 0), (0, 0), (0, 0), (0, 1), ((-1), 32)], [], [], 0, 0, 101, [(0, .inr (3, (0, 480))), (1, .inr (0, (8, 0)))], [.inr (0, (9, 0))])
noncomputable def rxIBSK_11 (S0 : Nat → Int → Int) (ws : List Int) (S : Nat → Int → Int) (test : Int) : Prop := rxIBSW_11 S0 ws S test ∧ True
noncomputable def rxmBSK_11 (S0 : Nat → Int → Int) (ws : List Int) (S : Nat → Int → Int) (test : Int) : Nat := rxmBSW_11 S0 ws S test
noncomputable def rxzBSK_11 : rx_Z := ([(0, 0), (0, 0), (0, 0), (0, 0), (0, 0), (0, 0), (0, 0), (0, 0), (0, 1)], [], [], 0, 0, 112, [(0, .inr (3, (0, 480))), (1, .inr (0, (8, 0)))], [.inr (0, (0, 93)), .inr (3, (0, 480)), .inr (3, (0, 480))])
noncomputable def rxIBSK_12 (S0 : Nat → Int → Int) (ws : List Int) (S : Nat → Int → Int) (test is : Int) : Prop := rxIBSW_12 S0 ws S test is ∧ True
noncomputable def rxmBSK_12 (S0 : Nat → Int → Int) (ws : List Int) (S : Nat → Int → Int) (test is : Int) : Nat := rxmBSW_12 S0 ws S test is
noncomputable def rxzBSK_12 : rx_Z := ([(0, 0), (0, 0), (0, 0), (0, 0), (0, 0), (0, 0), (0, 0), (0, 0), (0, 1), (0, 1)], [], [], 0, 0, 115, [(0, .inr (3, (0, 480))), (1, .inr (0, (8, 0)))], [.inr (0, (9, 0)), .inr (3, (0, 480))])
noncomputable def rxIBSK_13 (S0 : Nat → Int → Int) (ws : List Int) (S : Nat → Int → Int) (test is : Int) : Prop := rxIBSW_13 S0 ws S test is ∧ (∀ (b : Int) (c : rkC), rkMd S0 b c → rkMd S b c ∧ rkFm S0 S b)
noncomputable def rxmBSK_13 (S0 : Nat → Int → Int) (ws : List Int) (S : Nat → Int → Int) (test is : Int) : Nat := rxmBSW_13 S0 ws S test is
noncomputable def rxzBSK_13 : rx_Z := ([(0, 0), (0, 0), (0, 0), (0, 0), (0, 0), (0, 0), (0, 0), (0, 0), (0, 1), (0, 1)], [], [], 0, 0, 118, [(0, .inr (3, (0, 480))), (1, .inr (0, (8, 0)))], [])
noncomputable def rxIBSK_14 (S0 : Nat → Int → Int) (ws : List Int) (S : Nat → Int → Int) (test : Int) : Prop := rxIBSW_14 S0 ws S test ∧ (∀ (b : Int) (c : rkC), rkMd S0 b c → rkMd S b c ∧ rkFm S0 S b)
noncomputable def rxmBSK_14 (S0 : Nat → Int → Int) (ws : List Int) (S : Nat → Int → Int) (test : Int) : Nat := rxmBSW_14 S0 ws S test
noncomputable def rxzBSK_14 : rx_Z := ([(0, 0), (0, 0), (0, 0), (0, 0), (0, 0), (0, 0), (0, 0), (0, 0), (0, 1)], [], [], 0, 0, 127, [(0, .inr (3, (0, 480))), (1, .inr (0, (8, 0)))], [.inr (0, (0, 5)), .inr (3, (0, 480))])
noncomputable def rxIBSK_15 (S0 : Nat → Int → Int) (ws : List Int) (S : Nat → Int → Int) (test : Int) : Prop := rxIBSW_15 S0 ws S test ∧ (∀ (b : Int) (c : rkC), rkMd S0 b c → rkW c → rkMd S b (rkRed 5 c) ∧ rkFm S0 S b)
noncomputable def rxmBSK_15 (S0 : Nat → Int → Int) (ws : List Int) (S : Nat → Int → Int) (test : Int) : Nat := rxmBSW_15 S0 ws S test
noncomputable def rxzBSK_15 : rx_Z := ([(0, 0), (0, 0), (0, 0), (0, 0), (0, 0), (0, 0), (0, 0), (0, 0), (0, 1)], [], [], 0, 0, 130, [(0, .inr (3, (0, 480))), (1, .inr (0, (8, 0)))], [])
noncomputable def rxIBSK_16 (S0 : Nat → Int → Int) (ws : List Int) (S : Nat → Int → Int) (test pn : Int) : Prop := rxIBSW_16 S0 ws S test pn ∧ (∀ (b : Int) (c : rkC), rkMd S0 b c → rkW c → rkMd S b (rkRed 5 c) ∧ rkFm S0 S b)
noncomputable def rxmBSK_16 (S0 : Nat → Int → Int) (ws : List Int) (S : Nat → Int → Int) (test pn : Int) : Nat := rxmBSW_16 S0 ws S test pn
noncomputable def rxzBSK_16 : rx_Z := ([(0, 0), (0, 0), (0, 0), (0, 0), (0, 0), (0, 0), (0, 0), (0, 0), (0, 1), (1, 400)], [], [], 0, 0, 135, [(0, .inr (3, (0, 480))), (1, .inr (0, (8, 0)))], [.inr (0, (9, 0)), .inr (3, (0, 480))])
noncomputable def rxIBSK_17 (S0 : Nat → Int → Int) (ws : List Int) (S : Nat → Int → Int) (test q : Int) : Prop := rxIBSW_17 S0 ws S test q ∧ (∀ (b : Int) (c : rkC), rkMd S0 b c → rkW c → rkMd S b (rkPop (rkRed 5 c)) ∧ rkFm S0 S b)
noncomputable def rxmBSK_17 (S0 : Nat → Int → Int) (ws : List Int) (S : Nat → Int → Int) (test q : Int) : Nat := rxmBSW_17 S0 ws S test q
noncomputable def rxzBSK_17 : rx_Z := ([(0, 0), (0, 0), (0, 0), (0, 0), (0, 0), (0, 0), (0, 0), (0, 0), (0, 1), (1, 8)], [], [], 0, 0, 145, [(0, .inr (3, (0, 480))), (1, .inr (0, (8, 0)))], [.inr (0, (9, 0)), .inr (3, (0, 480))])
noncomputable def rxIBSK_18 (S0 : Nat → Int → Int) (ws : List Int) (S : Nat → Int → Int) (test : Int) : Prop := rxIBSW_18 S0 ws S test ∧ True
noncomputable def rxmBSK_18 (S0 : Nat → Int → Int) (ws : List Int) (S : Nat → Int → Int) (test : Int) : Nat := rxmBSW_18 S0 ws S test
noncomputable def rxzBSK_18 : rx_Z := ([(0, 0), (0, 0), (0, 0), (0, 0), (0, 0), (0, 0), (0, 0), (0, 0), (0, 1)], [], [], 0, 0, 164, [(0, .inr (3, (0, 480))), (1, .inr (0, (8, 0)))], [.inr (3, (0, 480))])
noncomputable def rxIBSK_19 (S0 : Nat → Int → Int) (ws : List Int) (S : Nat → Int → Int) (test cmp : Int) : Prop := rxIBSW_19 S0 ws S test cmp ∧ True
noncomputable def rxmBSK_19 (S0 : Nat → Int → Int) (ws : List Int) (S : Nat → Int → Int) (test cmp : Int) : Nat := rxmBSW_19 S0 ws S test cmp
noncomputable def rxzBSK_19 : rx_Z := ([(0, 0), (0, 0), (0, 0), (0, 0), (0, 0), (0, 0), (0, 0), (0, 0), (0, 1), (0, 1)], [], [], 0, 0, 167, [(0, .inr (3, (0, 480))), (1, .inr (0, (8, 0)))], [.inr (0, (9, 0))])
noncomputable def rxIBSK_20 (S0 : Nat → Int → Int) (ws : List Int) (S : Nat → Int → Int) (test op is : Int) : Prop := rxIBSW_20 S0 ws S test op is ∧ (rzDq S0 → is = 1 → ((op = 25 ∧ rzCut (S0 485) (S0 480 9) = 60) ∨ (op = 26 ∧ rzCut (S0 485) (S0 480 9) = 62) ∨ (op = 27 ∧ rzCut (S0 485) (S0 480 9) = 61)))
noncomputable def rxmBSK_20 (S0 : Nat → Int → Int) (ws : List Int) (S : Nat → Int → Int) (test op is : Int) : Nat := rxmBSW_20 S0 ws S test op is
noncomputable def rxzBSK_20 : rx_Z := ([(0, 0), (0, 0), (0, 0), (0, 0), (0, 0), (0, 0), (0, 0), (0, 0), (0, 1), (25, 27), (0, 1)], [], [], 0, 0, 224, [(0, .inr (3, (0, 480))), (1, .inr (0, (8, 0))), (2, .inr (0, (9, 0)))], [.inr (0, (10, 0)), .inr (3, (0, 480))])
noncomputable def rxIBSK_21 (S0 : Nat → Int → Int) (ws : List Int) (S : Nat → Int → Int) (test op is : Int) : Prop := rxIBSW_21 S0 ws S test op is ∧ (∀ (b : Int) (c : rkC), rkMd S0 b c → rkMd S b c ∧ rkFm S0 S b) ∧ (rzDq S0 → S 480 14 = 0 → ((op = 25 ∧ rzCut (S0 485) (S0 480 9) = 60) ∨ (op = 26 ∧ rzCut (S0 485) (S0 480 9) = 62) ∨ (op = 27 ∧ rzCut (S0 485) (S0 480 9) = 61)))
noncomputable def rxmBSK_21 (S0 : Nat → Int → Int) (ws : List Int) (S : Nat → Int → Int) (test op is : Int) : Nat := rxmBSW_21 S0 ws S test op is
noncomputable def rxzBSK_21 : rx_Z := ([(0, 0), (0, 0), (0, 0), (0, 0), (0, 0), (0, 0), (0, 0), (0, 0), (0, 1), (25, 27), (0, 1)], [], [], 0, 0, 227, [(0, .inr (3, (0, 480))), (1, .inr (0, (8, 0))), (2, .inr (0, (9, 0)))], [])
noncomputable def rxIBSK_22 (S0 : Nat → Int → Int) (ws : List Int) (S : Nat → Int → Int) (test op : Int) : Prop := rxIBSW_22 S0 ws S test op ∧ (∀ (b : Int) (c : rkC), rkMd S0 b c → rkMd S b c ∧ rkFm S0 S b) ∧ (rzDq S0 → ((op = 25 ∧ rzCut (S0 485) (S0 480 9) = 60) ∨ (op = 26 ∧ rzCut (S0 485) (S0 480 9) = 62) ∨ (op = 27 ∧ rzCut (S0 485) (S0 480 9) = 61)))
noncomputable def rxmBSK_22 (S0 : Nat → Int → Int) (ws : List Int) (S : Nat → Int → Int) (test op : Int) : Nat := rxmBSW_22 S0 ws S test op
noncomputable def rxzBSK_22 : rx_Z := ([(0, 0), (0, 0), (0, 0), (0, 0), (0, 0), (0, 0), (0, 0), (0, 0), (0, 1), (25, 27)], [], [], 0, 0, 236, [(0, .inr (3, (0, 480))), (1, .inr (0, (8, 0))), (2, .inr (0, (9, 0)))], [.inr (0, (0, 5)), .inr (3, (0, 480))])
noncomputable def rxIBSK_23 (S0 : Nat → Int → Int) (ws : List Int) (S : Nat → Int → Int) (test op : Int) : Prop := rxIBSW_23 S0 ws S test op ∧ (∀ (b : Int) (c : rkC), rkMd S0 b c → rkW c → rkMd S b (rkRed 5 c) ∧ rkFm S0 S b) ∧ (rzDq S0 → ((op = 25 ∧ rzCut (S0 485) (S0 480 9) = 60) ∨ (op = 26 ∧ rzCut (S0 485) (S0 480 9) = 62) ∨ (op = 27 ∧ rzCut (S0 485) (S0 480 9) = 61)))
noncomputable def rxmBSK_23 (S0 : Nat → Int → Int) (ws : List Int) (S : Nat → Int → Int) (test op : Int) : Nat := rxmBSW_23 S0 ws S test op
noncomputable def rxzBSK_23 : rx_Z := ([(0, 0), (0, 0), (0, 0), (0, 0), (0, 0), (0, 0), (0, 0), (0, 0), (0, 1), (25, 27)], [], [], 0, 0, 239, [(0, .inr (3, (0, 480))), (1, .inr (0, (8, 0))), (2, .inr (0, (9, 0)))], [])
noncomputable def rxIBSK_24 (S0 : Nat → Int → Int) (ws : List Int) (S : Nat → Int → Int) (test op op2 : Int) : Prop := rxIBSW_24 S0 ws S test op op2 ∧ op2 = op ∧ (∀ (b : Int) (c : rkC), rkMd S0 b c → rkW c → rkMd S b (rkRed 5 c) ∧ rkFm S0 S b) ∧ (rzDq S0 → ((op = 25 ∧ rzCut (S0 485) (S0 480 9) = 60) ∨ (op = 26 ∧ rzCut (S0 485) (S0 480 9) = 62) ∨ (op = 27 ∧ rzCut (S0 485) (S0 480 9) = 61)))
noncomputable def rxmBSK_24 (S0 : Nat → Int → Int) (ws : List Int) (S : Nat → Int → Int) (test op op2 : Int) : Nat := rxmBSW_24 S0 ws S test op op2
noncomputable def rxzBSK_24 : rx_Z := ([(0, 0), (0, 0), (0, 0), (0, 0), (0, 0), (0, 0), (0, 0), (0, 0), (0, 1), (25, 27), (25, 27)], [], [], 0, 0, 242, [(0, .inr (3, (0, 480))), (1, .inr (0, (8, 0))), (2, .inr (0, (9, 0)))], [.inr (0, (0, 0)), .inr (0, (10, 0)), .inr (3, (0, 480))])
noncomputable def rxIBSK_25 (S0 : Nat → Int → Int) (ws : List Int) (S : Nat → Int → Int) (test op op2 : Int) : Prop := rxIBSW_25 S0 ws S test op op2 ∧ (rzCk S0 → rzDq S0 → ∀ (tst s : Int) (rest : List Int), ws = [480, tst] → rzSr S0 tst (s :: rest) → (s = 0 ∨ s = 2 ∨ s = 3) → rkTq S0 S (s :: rest) true)
noncomputable def rxmBSK_25 (S0 : Nat → Int → Int) (ws : List Int) (S : Nat → Int → Int) (test op op2 : Int) : Nat := rxmBSW_25 S0 ws S test op op2
noncomputable def rxzBSK_25 : rx_Z := ([(0, 0), (0, 0), (0, 0), (0, 0), (0, 0), (0, 0), (0, 0), (0, 0), (0, 1), (25, 27), (25, 27)], [], [], 0, 0, 245, [(0, .inr (3, (0, 480))), (1, .inr (0, (8, 0))), (2, .inr (0, (9, 0)))], [])
noncomputable def rxoBSK_0_0 : bx_HO := (([(0, 0), (0, 0), (0, 0), (0, 0), (0, 0), (0, 0), (0, 0), (0, 0), (0, 1), (0, 2)], [(3, (9, 0), (0, 3)), (3, (9, 0), (0, 3)), (3, (9, 0), (0, 3)), (3, (9, 0), (0, 3)), (3, (9, 0), (0, 3))], [(((0, 0), 1851192626986356799632114105031551009123054124018230966928539648000000), .inr (0, (9, 0))), (((0, 480), 11), .inr (0, (9, 0)))], 0, 0, 72, [(2, .inr (0, (0, (-1)))), (0, .inr (3, (0, 480))), (1, .inr (0, (8, 0)))], []), [], [], [(0, 0), (0, 0), (0, 0), (0, 0), (0, 0), (0, 0), (0, 0), (0, 0), (8, 0), (0, (-1))], 1)
noncomputable def rxoBSK_0_1 : bx_HO := (([(0, 0), (0, 0), (0, 0), (0, 0), (0, 0), (0, 0), (0, 0), (0, 0), (0, 1), (3, 3), ((-9223372036854775808), 9223372036854775807)], [(3, (10, 0), (0, 37)), (3, (10, 0), (0, 47)), (3, (10, 0), (0, 42)), (3, (10, 0), (0, 45)), (3, (10, 0), (0, 43))], [(((0, 0), 1851192626986356799832820811818326617396875588472066220482363392000000), .inr (1, (10, 0))), (((0, 480), 12), .inr (1, (10, 0))), (((0, 0), 1851192626986356799632114105031551009123054124018230966928539648000000), .inr (0, (9, 0))), (((0, 480), 11), .inr (0, (9, 0)))], 0, 0, 72, [(2, .inr (0, (0, (-1)))), (0, .inr (3, (0, 480))), (1, .inr (0, (8, 0)))], []), [], [], [(0, 0), (0, 0), (0, 0), (0, 0), (0, 0), (0, 0), (0, 0), (0, 0), (8, 0), (0, (-1))], 1)
noncomputable def rxoBSK_0_2 : bx_HO := (([(0, 0), (0, 0), (0, 0), (0, 0), (0, 0), (0, 0), (0, 0), (0, 0), (0, 1), (3, 3), (37, 37)], [(3, (10, 0), (0, 47)), (3, (10, 0), (0, 42)), (3, (10, 0), (0, 45)), (3, (10, 0), (0, 43))], [(((0, 0), 1851192626986356799832820811818326617396875588472066220482363392000000), .inr (1, (10, 0))), (((0, 480), 12), .inr (1, (10, 0))), (((0, 0), 1851192626986356799632114105031551009123054124018230966928539648000000), .inr (0, (9, 0))), (((0, 480), 11), .inr (0, (9, 0)))], 0, 0, 72, [(2, .inr (0, (0, 24))), (0, .inr (3, (0, 480))), (1, .inr (0, (8, 0)))], []), [], [], [(0, 0), (0, 0), (0, 0), (0, 0), (0, 0), (0, 0), (0, 0), (0, 0), (8, 0), (0, 24)], 1)
noncomputable def rxoBSK_0_3 : bx_HO := (([(0, 0), (0, 0), (0, 0), (0, 0), (0, 0), (0, 0), (0, 0), (0, 0), (0, 1), (3, 3), (47, 47)], [(3, (10, 0), (0, 42)), (3, (10, 0), (0, 45)), (3, (10, 0), (0, 43))], [(((0, 0), 1851192626986356799832820811818326617396875588472066220482363392000000), .inr (1, (10, 0))), (((0, 480), 12), .inr (1, (10, 0))), (((0, 0), 1851192626986356799632114105031551009123054124018230966928539648000000), .inr (0, (9, 0))), (((0, 480), 11), .inr (0, (9, 0)))], 0, 0, 72, [(2, .inr (0, (0, 23))), (0, .inr (3, (0, 480))), (1, .inr (0, (8, 0)))], []), [], [], [(0, 0), (0, 0), (0, 0), (0, 0), (0, 0), (0, 0), (0, 0), (0, 0), (8, 0), (0, 23)], 1)
noncomputable def rxoBSK_0_4 : bx_HO := (([(0, 0), (0, 0), (0, 0), (0, 0), (0, 0), (0, 0), (0, 0), (0, 0), (0, 1), (3, 3), (42, 42)], [(3, (10, 0), (0, 45)), (3, (10, 0), (0, 43))], [(((0, 0), 1851192626986356799832820811818326617396875588472066220482363392000000), .inr (1, (10, 0))), (((0, 480), 12), .inr (1, (10, 0))), (((0, 0), 1851192626986356799632114105031551009123054124018230966928539648000000), .inr (0, (9, 0))), (((0, 480), 11), .inr (0, (9, 0)))], 0, 0, 72, [(2, .inr (0, (0, 22))), (0, .inr (3, (0, 480))), (1, .inr (0, (8, 0)))], []), [], [], [(0, 0), (0, 0), (0, 0), (0, 0), (0, 0), (0, 0), (0, 0), (0, 0), (8, 0), (0, 22)], 1)
noncomputable def rxoBSK_0_5 : bx_HO := (([(0, 0), (0, 0), (0, 0), (0, 0), (0, 0), (0, 0), (0, 0), (0, 0), (0, 1), (3, 3), (45, 45)], [(3, (10, 0), (0, 43))], [(((0, 0), 1851192626986356799832820811818326617396875588472066220482363392000000), .inr (1, (10, 0))), (((0, 480), 12), .inr (1, (10, 0))), (((0, 0), 1851192626986356799632114105031551009123054124018230966928539648000000), .inr (0, (9, 0))), (((0, 480), 11), .inr (0, (9, 0)))], 0, 0, 72, [(2, .inr (0, (0, 21))), (0, .inr (3, (0, 480))), (1, .inr (0, (8, 0)))], []), [], [], [(0, 0), (0, 0), (0, 0), (0, 0), (0, 0), (0, 0), (0, 0), (0, 0), (8, 0), (0, 21)], 1)
noncomputable def rxoBSK_0_6 : bx_HO := (([(0, 0), (0, 0), (0, 0), (0, 0), (0, 0), (0, 0), (0, 0), (0, 0), (0, 1), (3, 3), (43, 43)], [], [(((0, 0), 1851192626986356799832820811818326617396875588472066220482363392000000), .inr (1, (10, 0))), (((0, 480), 12), .inr (1, (10, 0))), (((0, 0), 1851192626986356799632114105031551009123054124018230966928539648000000), .inr (0, (9, 0))), (((0, 480), 11), .inr (0, (9, 0)))], 0, 0, 72, [(2, .inr (0, (0, 20))), (0, .inr (3, (0, 480))), (1, .inr (0, (8, 0)))], []), [], [], [(0, 0), (0, 0), (0, 0), (0, 0), (0, 0), (0, 0), (0, 0), (0, 0), (8, 0), (0, 20)], 1)
noncomputable def rxoBSK_1_0 : bx_HO := (([(0, 0), (0, 0), (0, 0), (0, 0), (0, 0), (0, 0), (0, 0), (0, 0), (0, 1), (0, 24)], [(3, (9, 0), (0, (-1)))], [], 0, 0, 79, [(0, .inr (3, (0, 480))), (1, .inr (0, (8, 0))), (2, .inr (0, (9, 0)))], [.inr (0, (9, 0)), .inr (3, (0, 480))]), [(9, 20, 24), (9, 20, 24)], [], [(0, 0), (0, 0), (0, 0), (0, 0), (0, 0), (0, 0), (0, 0), (0, 0), (8, 0), (9, 0), (9, 0)], 2)
noncomputable def rxoBSK_1_1 : bx_HO := (([(0, 0), (0, 0), (0, 0), (0, 0), (0, 0), (0, 0), (0, 0), (0, 0), (0, 1), ((-1), (-1))], [], [], 0, 0, 98, [(0, .inr (3, (0, 480))), (1, .inr (0, (8, 0))), (2, .inr (0, (9, 0)))], [.inr (3, (0, 480))]), [], [], [(0, 0), (0, 0), (0, 0), (0, 0), (0, 0), (0, 0), (0, 0), (0, 0), (8, 0)], 9)
noncomputable def rxoBSK_4_0 : bx_HO := (([(0, 0), (0, 0), (0, 0), (0, 0), (0, 0), (0, 0), (0, 0), (0, 0), (0, 1), (20, 24), (20, 24), (5, 6)], [], [], 0, 0, 88, [(0, .inr (3, (0, 480))), (1, .inr (0, (8, 0))), (2, .inr (0, (9, 0)))], [.inr (0, (0, 0)), .inr (0, (9, 0)), .inr (3, (0, 480))]), [], [], [(0, 0), (0, 0), (0, 0), (0, 0), (0, 0), (0, 0), (0, 0), (0, 0), (8, 0), (9, 0), (9, 0)], 5)
noncomputable def rxoBSK_6_0 : bx_HO := (([(0, 0), (0, 0), (0, 0), (0, 0), (0, 0), (0, 0), (0, 0), (0, 0), (0, 1), (20, 24), (20, 24)], [], [], 0, 0, 92, [(0, .inr (3, (0, 480))), (1, .inr (0, (8, 0))), (2, .inr (0, (9, 0)))], [.inr (3, (0, 480))]), [], [], [(0, 0), (0, 0), (0, 0), (0, 0), (0, 0), (0, 0), (0, 0), (0, 0), (8, 0), (9, 0)], 7)
noncomputable def rxeBSK_8_0 : rx_End × List (Nat × Int × Int) := (([(0, 0), (0, 0), (0, 0), (0, 0), (0, 0), (0, 0), (0, 0), (0, 0), (0, 1), (20, 24)], [], [], some (.inr (0, (0, 1)))), [])
noncomputable def rxoBSK_10_0 : bx_HO := (([(0, 0), (0, 0), (0, 0), (0, 0), (0, 0), (0, 0), (0, 0), (0, 0), (0, 1), (32, 32)], [], [], 0, 0, 112, [(3, .inr (0, (9, 0))), (0, .inr (3, (0, 480))), (1, .inr (0, (8, 0)))], [.inr (0, (0, 93)), .inr (3, (0, 480)), .inr (3, (0, 480))]), [], [], [(0, 0), (0, 0), (0, 0), (0, 0), (0, 0), (0, 0), (0, 0), (0, 0), (8, 0)], 11)
noncomputable def rxoBSK_10_1 : bx_HO := (([(0, 0), (0, 0), (0, 0), (0, 0), (0, 0), (0, 0), (0, 0), (0, 0), (1, 1), ((-1), (-1))], [(3, (8, 0), (0, 0)), (3, (9, 0), (0, 32))], [], 0, 0, 164, [(3, .inr (0, (9, 0))), (0, .inr (3, (0, 480))), (1, .inr (0, (8, 0)))], [.inr (3, (0, 480))]), [], [], [(0, 0), (0, 0), (0, 0), (0, 0), (0, 0), (0, 0), (0, 0), (0, 0), (8, 0)], 18)
noncomputable def rxoBSK_10_2 : bx_HO := (([(0, 0), (0, 0), (0, 0), (0, 0), (0, 0), (0, 0), (0, 0), (0, 0), (0, 1), (0, 31)], [(3, (9, 0), (0, (-1))), (3, (9, 0), (0, 32))], [], 0, 0, 164, [(3, .inr (0, (9, 0))), (0, .inr (3, (0, 480))), (1, .inr (0, (8, 0)))], [.inr (3, (0, 480))]), [], [], [(0, 0), (0, 0), (0, 0), (0, 0), (0, 0), (0, 0), (0, 0), (0, 0), (8, 0)], 18)
noncomputable def rxeBSK_10_0 : rx_End × List (Nat × Int × Int) := (([(0, 0), (0, 0), (0, 0), (0, 0), (0, 0), (0, 0), (0, 0), (0, 0), (0, 0), ((-1), (-1))], [(3, (9, 0), (0, 32))], [], some (.inr (0, (0, 4)))), [])
noncomputable def rxoBSK_13_0 : bx_HO := (([(0, 0), (0, 0), (0, 0), (0, 0), (0, 0), (0, 0), (0, 0), (0, 0), (0, 1), (0, 1), (0, 0)], [], [(((0, 0), 1851192626986356800234234225391877833944518517379736727590010880000000), .inr (0, (10, 0))), (((0, 480), 14), .inr (0, (10, 0)))], 0, 0, 127, [(0, .inr (3, (0, 480))), (1, .inr (0, (8, 0)))], [.inr (0, (0, 5)), .inr (3, (0, 480))]), [], [], [(0, 0), (0, 0), (0, 0), (0, 0), (0, 0), (0, 0), (0, 0), (0, 0), (8, 0)], 14)
noncomputable def rxeBSK_13_0 : rx_End × List (Nat × Int × Int) := (([(0, 0), (0, 0), (0, 0), (0, 0), (0, 0), (0, 0), (0, 0), (0, 0), (0, 1), (0, 1), (1, 1)], [(3, (10, 0), (0, 0))], [(((0, 0), 1851192626986356800234234225391877833944518517379736727590010880000000), .inr (0, (10, 0))), (((0, 480), 14), .inr (0, (10, 0)))], some (.inr (0, (0, 3)))), [])
noncomputable def rxoBSK_15_0 : bx_HO := (([(0, 0), (0, 0), (0, 0), (0, 0), (0, 0), (0, 0), (0, 0), (0, 0), (0, 1), (0, 400)], [], [(((0, 0), 1851192626986356802241301293259633916682733161918089263128248320000000), .inr (0, (9, 0))), (((0, 480), 24), .inr (0, (9, 0)))], 0, 0, 135, [(0, .inr (3, (0, 480))), (1, .inr (0, (8, 0)))], [.inr (0, (9, 0)), .inr (3, (0, 480))]), [(9, 1, 400)], [], [(0, 0), (0, 0), (0, 0), (0, 0), (0, 0), (0, 0), (0, 0), (0, 0), (8, 0), (9, 0)], 16)
noncomputable def rxoBSK_16_0 : bx_HO := (([(0, 0), (0, 0), (0, 0), (0, 0), (0, 0), (0, 0), (0, 0), (0, 0), (0, 1), (1, 400), (0, 8)], [], [(((0, 0), 1851192626986356802442008000046409524956554626371924516682072064000000), .inr (0, (10, 0))), (((0, 480), 25), .inr (0, (10, 0))), (((0, 0), 1851192626986356802241301293259633916682733161918089263128248323000000), .inr (0, (9, (-1)))), (((0, 480), 24), .inr (0, (9, (-1))))], 0, 0, 145, [(0, .inr (3, (0, 480))), (1, .inr (0, (8, 0)))], [.inr (0, (10, 0)), .inr (3, (0, 480))]), [(10, 1, 8)], [], [(0, 0), (0, 0), (0, 0), (0, 0), (0, 0), (0, 0), (0, 0), (0, 0), (8, 0), (10, 0)], 17)
noncomputable def rxeBSK_17_0 : rx_End × List (Nat × Int × Int) := (([(0, 0), (0, 0), (0, 0), (0, 0), (0, 0), (0, 0), (0, 0), (0, 0), (0, 1), (1, 8)], [], [(((0, 0), 1851192626986356802442008000046409524956554626371924516682072067000000), .inr (0, (9, (-1)))), (((0, 480), 25), .inr (0, (9, (-1))))], some (.inr (0, (0, 3)))), [])
noncomputable def rxoBSK_19_0 : bx_HO := (([(0, 0), (0, 0), (0, 0), (0, 0), (0, 0), (0, 0), (0, 0), (0, 0), (0, 1), (0, 0), (0, 2)], [(3, (10, 0), (0, 3)), (3, (10, 0), (0, 3)), (3, (10, 0), (0, 3))], [(((0, 0), 1851192626986356799632114105031551009123054124018230966928539648000000), .inr (0, (10, 0))), (((0, 480), 11), .inr (0, (10, 0)))], 0, 0, 224, [(2, .inr (0, (0, 27))), (0, .inr (3, (0, 480))), (1, .inr (0, (8, 0)))], [.inr (0, (0, 0)), .inr (3, (0, 480))]), [], [], [(0, 0), (0, 0), (0, 0), (0, 0), (0, 0), (0, 0), (0, 0), (0, 0), (8, 0), (0, 27), (0, 0)], 20)
noncomputable def rxoBSK_19_1 : bx_HO := (([(0, 0), (0, 0), (0, 0), (0, 0), (0, 0), (0, 0), (0, 0), (0, 0), (0, 1), (0, 0), (3, 3), ((-9223372036854775808), 9223372036854775807)], [(3, (11, 0), (0, 61)), (3, (11, 0), (0, 62)), (3, (11, 0), (0, 60))], [(((0, 0), 1851192626986356799832820811818326617396875588472066220482363392000000), .inr (1, (11, 0))), (((0, 480), 12), .inr (1, (11, 0))), (((0, 0), 1851192626986356799632114105031551009123054124018230966928539648000000), .inr (0, (10, 0))), (((0, 480), 11), .inr (0, (10, 0)))], 0, 0, 224, [(2, .inr (0, (0, 27))), (0, .inr (3, (0, 480))), (1, .inr (0, (8, 0)))], [.inr (0, (0, 0)), .inr (3, (0, 480))]), [], [], [(0, 0), (0, 0), (0, 0), (0, 0), (0, 0), (0, 0), (0, 0), (0, 0), (8, 0), (0, 27), (0, 0)], 20)
noncomputable def rxoBSK_19_2 : bx_HO := (([(0, 0), (0, 0), (0, 0), (0, 0), (0, 0), (0, 0), (0, 0), (0, 0), (0, 1), (0, 0), (3, 3), (61, 61)], [(3, (11, 0), (0, 62)), (3, (11, 0), (0, 60))], [(((0, 0), 1851192626986356799832820811818326617396875588472066220482363392000000), .inr (1, (11, 0))), (((0, 480), 12), .inr (1, (11, 0))), (((0, 0), 1851192626986356799632114105031551009123054124018230966928539648000000), .inr (0, (10, 0))), (((0, 480), 11), .inr (0, (10, 0)))], 0, 0, 224, [(2, .inr (0, (0, 27))), (0, .inr (3, (0, 480))), (1, .inr (0, (8, 0)))], [.inr (0, (0, 1)), .inr (3, (0, 480))]), [], [], [(0, 0), (0, 0), (0, 0), (0, 0), (0, 0), (0, 0), (0, 0), (0, 0), (8, 0), (0, 27), (0, 1)], 20)
noncomputable def rxoBSK_19_3 : bx_HO := (([(0, 0), (0, 0), (0, 0), (0, 0), (0, 0), (0, 0), (0, 0), (0, 0), (0, 1), (0, 0), (3, 3), (62, 62)], [(3, (11, 0), (0, 60))], [(((0, 0), 1851192626986356799832820811818326617396875588472066220482363392000000), .inr (1, (11, 0))), (((0, 480), 12), .inr (1, (11, 0))), (((0, 0), 1851192626986356799632114105031551009123054124018230966928539648000000), .inr (0, (10, 0))), (((0, 480), 11), .inr (0, (10, 0)))], 0, 0, 224, [(2, .inr (0, (0, 26))), (0, .inr (3, (0, 480))), (1, .inr (0, (8, 0)))], [.inr (0, (0, 1)), .inr (3, (0, 480))]), [], [], [(0, 0), (0, 0), (0, 0), (0, 0), (0, 0), (0, 0), (0, 0), (0, 0), (8, 0), (0, 26), (0, 1)], 20)
noncomputable def rxoBSK_19_4 : bx_HO := (([(0, 0), (0, 0), (0, 0), (0, 0), (0, 0), (0, 0), (0, 0), (0, 0), (0, 1), (0, 0), (3, 3), (60, 60)], [], [(((0, 0), 1851192626986356799832820811818326617396875588472066220482363392000000), .inr (1, (11, 0))), (((0, 480), 12), .inr (1, (11, 0))), (((0, 0), 1851192626986356799632114105031551009123054124018230966928539648000000), .inr (0, (10, 0))), (((0, 480), 11), .inr (0, (10, 0)))], 0, 0, 224, [(2, .inr (0, (0, 25))), (0, .inr (3, (0, 480))), (1, .inr (0, (8, 0)))], [.inr (0, (0, 1)), .inr (3, (0, 480))]), [], [], [(0, 0), (0, 0), (0, 0), (0, 0), (0, 0), (0, 0), (0, 0), (0, 0), (8, 0), (0, 25), (0, 1)], 20)
noncomputable def rxeBSK_19_0 : rx_End × List (Nat × Int × Int) := (([(0, 0), (0, 0), (0, 0), (0, 0), (0, 0), (0, 0), (0, 0), (0, 0), (0, 1), (1, 1)], [(3, (9, 0), (0, 0))], [], some (.inr (0, (0, 2)))), [])
noncomputable def rxoBSK_21_0 : bx_HO := (([(0, 0), (0, 0), (0, 0), (0, 0), (0, 0), (0, 0), (0, 0), (0, 0), (0, 1), (25, 27), (0, 1), (0, 0)], [], [(((0, 0), 1851192626986356800234234225391877833944518517379736727590010880000000), .inr (0, (11, 0))), (((0, 480), 14), .inr (0, (11, 0)))], 0, 0, 236, [(0, .inr (3, (0, 480))), (1, .inr (0, (8, 0))), (2, .inr (0, (9, 0)))], [.inr (0, (0, 5)), .inr (3, (0, 480))]), [], [], [(0, 0), (0, 0), (0, 0), (0, 0), (0, 0), (0, 0), (0, 0), (0, 0), (8, 0), (9, 0)], 22)
noncomputable def rxeBSK_21_0 : rx_End × List (Nat × Int × Int) := (([(0, 0), (0, 0), (0, 0), (0, 0), (0, 0), (0, 0), (0, 0), (0, 0), (0, 1), (25, 27), (0, 1), (1, 1)], [(3, (11, 0), (0, 0))], [(((0, 0), 1851192626986356800234234225391877833944518517379736727590010880000000), .inr (0, (11, 0))), (((0, 480), 14), .inr (0, (11, 0)))], some (.inr (0, (0, 1)))), [])
noncomputable def rxoBSK_23_0 : bx_HO := (([(0, 0), (0, 0), (0, 0), (0, 0), (0, 0), (0, 0), (0, 0), (0, 0), (0, 1), (25, 27)], [], [], 0, 0, 242, [(0, .inr (3, (0, 480))), (1, .inr (0, (8, 0))), (2, .inr (0, (9, 0)))], [.inr (0, (0, 0)), .inr (0, (9, 0)), .inr (3, (0, 480))]), [], [], [(0, 0), (0, 0), (0, 0), (0, 0), (0, 0), (0, 0), (0, 0), (0, 0), (8, 0), (9, 0), (9, 0)], 24)
noncomputable def rxeBSK_25_0 : rx_End × List (Nat × Int × Int) := (([(0, 0), (0, 0), (0, 0), (0, 0), (0, 0), (0, 0), (0, 0), (0, 0), (0, 1), (25, 27), (25, 27)], [], [], some (.inr (0, (0, 1)))), [])
noncomputable def rxYBSK : List bx_HE := [(rxzBSK_0, [rxoBSK_0_0, rxoBSK_0_1, rxoBSK_0_2, rxoBSK_0_3, rxoBSK_0_4, rxoBSK_0_5, rxoBSK_0_6], []), (rxzBSK_1, [rxoBSK_1_0, rxoBSK_1_1], []), (rxzBSK_2, [], []), (rxzBSK_3, [], []), (rxzBSK_4, [rxoBSK_4_0], []), (rxzBSK_5, [], []), (rxzBSK_6, [rxoBSK_6_0], []), (rxzBSK_7, [], []), (rxzBSK_8, [], [rxeBSK_8_0]), (rxzBSK_9, [], []), (rxzBSK_10, [rxoBSK_10_0, rxoBSK_10_1, rxoBSK_10_2], [rxeBSK_10_0]), (rxzBSK_11, [], []), (rxzBSK_12, [], []), (rxzBSK_13, [rxoBSK_13_0], [rxeBSK_13_0]), (rxzBSK_14, [], []), (rxzBSK_15, [rxoBSK_15_0], []), (rxzBSK_16, [rxoBSK_16_0], []), (rxzBSK_17, [], [rxeBSK_17_0]), (rxzBSK_18, [], []), (rxzBSK_19, [rxoBSK_19_0, rxoBSK_19_1, rxoBSK_19_2, rxoBSK_19_3, rxoBSK_19_4], [rxeBSK_19_0]), (rxzBSK_20, [], []), (rxzBSK_21, [rxoBSK_21_0], [rxeBSK_21_0]), (rxzBSK_22, [], []), (rxzBSK_23, [rxoBSK_23_0], []), (rxzBSK_24, [], []), (rxzBSK_25, [], [rxeBSK_25_0])]
noncomputable def rxUBSK (q : bx_HE) : Bool := Nat.beq (rx_zpc q.1) 79 || Nat.beq (rx_zpc q.1) 82 || Nat.beq (rx_zpc q.1) 88 || Nat.beq (rx_zpc q.1) 92 || Nat.beq (rx_zpc q.1) 98 || Nat.beq (rx_zpc q.1) 112 || Nat.beq (rx_zpc q.1) 115 || Nat.beq (rx_zpc q.1) 127 || Nat.beq (rx_zpc q.1) 164 || Nat.beq (rx_zpc q.1) 224 || Nat.beq (rx_zpc q.1) 236 || Nat.beq (rx_zpc q.1) 242
noncomputable def rxYBBSK : bx_B := (rxV, rxNP, rxDmf, bx_mdH rxCBSK.2.2.1)
set_option maxRecDepth 100000 in
theorem rxYcBSK : bx_chkH rxYBBSK rxM279 rxCBSK rxYBSK (rxUBSK, fun cut z => rx_ex2 (rxCT rxYBBSK rxCnE) cut 30000 rxCBSK.2.2.2.1 279 z) = true := by decide +kernel
noncomputable def rxIBSK (S0 : Nat → Int → Int) (ws : List Int) (i : Nat) : bx_SP := fun S r => match i with | 0 => rxIBSK_0 S0 ws S (r 8) | 1 => rxIBSK_1 S0 ws S (r 8) (r 9) | 2 => rxIBSK_2 S0 ws S (r 8) (r 9) (r 10) | 3 => rxIBSK_3 S0 ws S (r 8) (r 9) (r 10) (r 11) | 4 => rxIBSK_4 S0 ws S (r 8) (r 9) (r 10) (r 11) | 5 => rxIBSK_5 S0 ws S (r 8) (r 9) (r 10) | 6 => rxIBSK_6 S0 ws S (r 8) (r 9) (r 10) | 7 => rxIBSK_7 S0 ws S (r 8) (r 9) | 8 => rxIBSK_8 S0 ws S (r 8) (r 9) | 9 => rxIBSK_9 S0 ws S (r 8) | 10 => rxIBSK_10 S0 ws S (r 8) (r 9) | 11 => rxIBSK_11 S0 ws S (r 8) | 12 => rxIBSK_12 S0 ws S (r 8) (r 9) | 13 => rxIBSK_13 S0 ws S (r 8) (r 9) | 14 => rxIBSK_14 S0 ws S (r 8) | 15 => rxIBSK_15 S0 ws S (r 8) | 16 => rxIBSK_16 S0 ws S (r 8) (r 9) | 17 => rxIBSK_17 S0 ws S (r 8) (r 9) | 18 => rxIBSK_18 S0 ws S (r 8) | 19 => rxIBSK_19 S0 ws S (r 8) (r 9) | 20 => rxIBSK_20 S0 ws S (r 8) (r 9) (r 10) | 21 => rxIBSK_21 S0 ws S (r 8) (r 9) (r 10) | 22 => rxIBSK_22 S0 ws S (r 8) (r 9) | 23 => rxIBSK_23 S0 ws S (r 8) (r 9) | 24 => rxIBSK_24 S0 ws S (r 8) (r 9) (r 10) | 25 => rxIBSK_25 S0 ws S (r 8) (r 9) (r 10) | _ => False
noncomputable def rxmBSK (S0 : Nat → Int → Int) (ws : List Int) (i : Nat) (S : Nat → Int → Int) (r : Nat → Int) : Nat := match i with | 0 => rxmBSK_0 S0 ws S (r 8) | 1 => rxmBSK_1 S0 ws S (r 8) (r 9) | 2 => rxmBSK_2 S0 ws S (r 8) (r 9) (r 10) | 3 => rxmBSK_3 S0 ws S (r 8) (r 9) (r 10) (r 11) | 4 => rxmBSK_4 S0 ws S (r 8) (r 9) (r 10) (r 11) | 5 => rxmBSK_5 S0 ws S (r 8) (r 9) (r 10) | 6 => rxmBSK_6 S0 ws S (r 8) (r 9) (r 10) | 7 => rxmBSK_7 S0 ws S (r 8) (r 9) | 8 => rxmBSK_8 S0 ws S (r 8) (r 9) | 9 => rxmBSK_9 S0 ws S (r 8) | 10 => rxmBSK_10 S0 ws S (r 8) (r 9) | 11 => rxmBSK_11 S0 ws S (r 8) | 12 => rxmBSK_12 S0 ws S (r 8) (r 9) | 13 => rxmBSK_13 S0 ws S (r 8) (r 9) | 14 => rxmBSK_14 S0 ws S (r 8) | 15 => rxmBSK_15 S0 ws S (r 8) | 16 => rxmBSK_16 S0 ws S (r 8) (r 9) | 17 => rxmBSK_17 S0 ws S (r 8) (r 9) | 18 => rxmBSK_18 S0 ws S (r 8) | 19 => rxmBSK_19 S0 ws S (r 8) (r 9) | 20 => rxmBSK_20 S0 ws S (r 8) (r 9) (r 10) | 21 => rxmBSK_21 S0 ws S (r 8) (r 9) (r 10) | 22 => rxmBSK_22 S0 ws S (r 8) (r 9) | 23 => rxmBSK_23 S0 ws S (r 8) (r 9) | 24 => rxmBSK_24 S0 ws S (r 8) (r 9) (r 10) | 25 => rxmBSK_25 S0 ws S (r 8) (r 9) (r 10) | _ => 0
noncomputable def rxPBSK (S0 : Nat → Int → Int) (ws : List Int) : Prop := rxPBSW S0 ws
noncomputable def rxPSBSK (S0 : Nat → Int → Int) (ws : List Int) (S : Nat → Int → Int) (w : Option Int) : Prop := rxPSBSW S0 ws S w ∧ (rzCk S0 → rzDq S0 → ∀ (tst s : Int) (rest : List Int), ws = [480, tst] → rzSr S0 tst (s :: rest) → (s = 0 ∨ s = 2 ∨ s = 3) → rkTq S0 S (s :: rest) true)
theorem rxkBSK_2 {S0 : Nat → Int → Int} {ws : List Int} {S : Nat → Int → Int} {test op op2 : Int} (hP : rxPBSK S0 ws) (hin : bx_same rxL (bx_mdl rxCBSK.2.2.1) S0 S) (I0 : bx_Inv rxL S) (hinv : rxIBSK_2 S0 ws S test op op2) (l8 : 0 ≤ test) (u8 : test ≤ 1) (l9 : 20 ≤ op) (u9 : op ≤ 24) (l10 : 20 ≤ op2) (u10 : op2 ≤ 24) : rxPBIK S [op2] ∧ ∀ (S_p : Nat → Int → Int) (bd : Int), 5 ≤ bd → bd ≤ 6 → rxPSBIK S [op2] S_p (some bd) → bx_Inv rxL S_p → bx_same rxL (bx_mdl rxCBIK.2.2.1) S S_p → rxIBSK_3 S0 ws S_p test op op2 bd ∧ rxmBSK_3 S0 ws S_p test op op2 bd < rxmBSK_2 S0 ws S test op op2 := by
  obtain ⟨hI, hx⟩ := hinv
  have g_ := rxkBSW_2 hP hin I0 hI l8 u8 l9 u9 l10 u10
  exact ⟨g_.1, fun S_p bd l_ u_ hq I1 hsm => ⟨⟨(g_.2 S_p bd l_ u_ hq.1 I1 hsm).1, (by
    obtain ⟨-, o2, hw2, hb⟩ := hq
    have e2 : op2 = o2 := Option.some.inj (congrArg (fun l : List Int => l[0]?) hw2)
    have h1 := hx.1
    subst e2
    subst h1
    exact ⟨rfl, hx.2, Option.some.inj hb⟩)⟩, (g_.2 S_p bd l_ u_ hq.1 I1 hsm).2⟩⟩
theorem rxsBSK_2 {X : (Nat → Int → Int) → Prop} {S0 : Nat → Int → Int} {ws : List Int} (hP : rxPBSK S0 ws) : rx_obK X S0 rxCBSK.2.2.1 rxCBIK.2.2.1 (rxIBSK S0 ws) (rxmBSK S0 ws) 2 3 rxzBSK_2 rxzBSK_3 [.inr (0, (10, 0))] (some 11) rxPBIK rxPSBIK := by
  intro S r hinv hXS I0 hin hs_ hf_
  have b_ := bx_bds_sat hs_
  have f_ := bx_fcl_ok hs_.1 hf_
  obtain ⟨⟨l8, u8⟩, ⟨l9, u9⟩, ⟨l10, u10⟩, -⟩ := b_
  have g := rxkBSK_2 hP hin I0 hinv l8 u8 l9 u9 l10 u10
  have ea : List.map (bx_num r) [.inr (0, (10, 0))] = [(r 10)] := by
    simp only [List.map_cons, List.map_nil, bx_xv_ok hs_.1]
    rfl
  rw [ea]
  refine ⟨g.1, fun S_p w r_p hPS hX_p I1 hsm hr hw hs_p => ?_⟩
  have hw := hw _ rfl
  subst hw
  have b_p := hs_p.2.2 11 _ _ rfl
  have g2 := g.2 S_p (r_p 11) b_p.1 b_p.2 hPS I1 hsm
  show rxIBSK_3 S0 ws S_p (r_p 8) (r_p 9) (r_p 10) (r_p 11) ∧ rxmBSK_3 S0 ws S_p (r_p 8) (r_p 9) (r_p 10) (r_p 11) < _
  rw [hr 8 (by decide), hr 9 (by decide), hr 10 (by decide)]
  exact g2
theorem rxkBSK_3 {S0 : Nat → Int → Int} {ws : List Int} {S : Nat → Int → Int} {test op op2 bd : Int} (hP : rxPBSK S0 ws) (hin : bx_same rxL (bx_mdl rxCBSK.2.2.1) S0 S) (I0 : bx_Inv rxL S) (hinv : rxIBSK_3 S0 ws S test op op2 bd) (l8 : 0 ≤ test) (u8 : test ≤ 1) (l9 : 20 ≤ op) (u9 : op ≤ 24) (l10 : 20 ≤ op2) (u10 : op2 ≤ 24) (l11 : 5 ≤ bd) (u11 : bd ≤ 6) : rxPSTK S [480, bd] ∧ ∀ (S_p : Nat → Int → Int), rxPSSTK S [480, bd] S_p none → bx_Inv rxL S_p → bx_same rxL (bx_mdl rxCSTK.2.2.1) S S_p → rxIBSK_4 S0 ws S_p test op op2 bd ∧ rxmBSK_4 S0 ws S_p test op op2 bd < rxmBSK_3 S0 ws S test op op2 bd := by
  obtain ⟨hI, hx⟩ := hinv
  have g_ := rxkBSW_3 hP hin I0 hI l8 u8 l9 u9 l10 u10 l11 u11
  exact ⟨g_.1, fun S_p hq I1 hsm => ⟨⟨(g_.2 S_p hq.2.1 I1 hsm).1, (by
    have e := hI.1.1
    subst e
    obtain ⟨l2, hw2, hm⟩ := hq.2.2
    have e2 : bd = l2 := Option.some.inj (congrArg (fun l : List Int => l[1]?) hw2)
    subst e2
    have h3 := hx.2.2
    subst h3
    exact ⟨hx.1, hx.2.1, fun b c hC hW => hm b c hC hW⟩)⟩, (g_.2 S_p hq.2.1 I1 hsm).2⟩⟩
theorem rxsBSK_3 {X : (Nat → Int → Int) → Prop} {S0 : Nat → Int → Int} {ws : List Int} (hP : rxPBSK S0 ws) : rx_obK X S0 rxCBSK.2.2.1 rxCSTK.2.2.1 (rxIBSK S0 ws) (rxmBSK S0 ws) 3 4 rxzBSK_3 rxzBSK_4 [.inr (3, (0, 480)), .inr (0, (11, 0))] none rxPSTK rxPSSTK := by
  intro S r hinv hXS I0 hin hs_ hf_
  have b_ := bx_bds_sat hs_
  have f_ := bx_fcl_ok hs_.1 hf_
  obtain ⟨⟨l8, u8⟩, ⟨l9, u9⟩, ⟨l10, u10⟩, ⟨l11, u11⟩, -⟩ := b_
  have g := rxkBSK_3 hP hin I0 hinv l8 u8 l9 u9 l10 u10 l11 u11
  have ea : List.map (bx_num r) [.inr (3, (0, 480)), .inr (0, (11, 0))] = [480, (r 11)] := by
    simp only [List.map_cons, List.map_nil, bx_xv_ok hs_.1]
    rfl
  rw [ea]
  refine ⟨g.1, fun S_p w r_p hPS hX_p I1 hsm hr hw hs_p => ?_⟩
  have hw : w = none := hPS.1
  subst hw
  have g2 := g.2 S_p hPS I1 hsm
  show rxIBSK_4 S0 ws S_p (r_p 8) (r_p 9) (r_p 10) (r_p 11) ∧ rxmBSK_4 S0 ws S_p (r_p 8) (r_p 9) (r_p 10) (r_p 11) < _
  rw [hr 8 (by decide), hr 9 (by decide), hr 10 (by decide), hr 11 (by decide)]
  exact g2
theorem rxkBSK_5 {S0 : Nat → Int → Int} {ws : List Int} {S : Nat → Int → Int} {test op op2 : Int} (hP : rxPBSK S0 ws) (hin : bx_same rxL (bx_mdl rxCBSK.2.2.1) S0 S) (I0 : bx_Inv rxL S) (hinv : rxIBSK_5 S0 ws S test op op2) (l8 : 0 ≤ test) (u8 : test ≤ 1) (l9 : 20 ≤ op) (u9 : op ≤ 24) (l10 : 20 ≤ op2) (u10 : op2 ≤ 24) : rxPPU S [480, op2, 0] ∧ ∀ (S_p : Nat → Int → Int), rxPSPU S [480, op2, 0] S_p none → bx_Inv rxL S_p → bx_same rxL (bx_mdl rxCPU.2.2.1) S S_p → rxIBSK_6 S0 ws S_p test op op2 ∧ rxmBSK_6 S0 ws S_p test op op2 < rxmBSK_5 S0 ws S test op op2 := by
  obtain ⟨hI, hx⟩ := hinv
  have g_ := rxkBSW_5 hP hin I0 hI l8 u8 l9 u9 l10 u10
  exact ⟨g_.1, fun S_p hq I1 hsm => ⟨⟨(g_.2 S_p hq I1 hsm).1, (by
    obtain ⟨-, o2, a2, hw3, e3⟩ := hq
    have he : op2 = o2 := Option.some.inj (congrArg (fun l : List Int => l[1]?) hw3)
    have h1 := hx.1
    subst e3
    refine ⟨hx.2.1, fun b c hC hW => ?_⟩
    obtain ⟨g1, g2⟩ := hx.2.2 b c hC hW
    have q_ := rkMd_pu (op := o2) (a := 0) (x := a2) g1 (fun g => by rcases g with g | g <;> omega)
    rw [show op = o2 by omega] at q_ ⊢
    exact ⟨q_.1, g2.tr q_.2⟩)⟩, (g_.2 S_p hq I1 hsm).2⟩⟩
theorem rxsBSK_5 {X : (Nat → Int → Int) → Prop} {S0 : Nat → Int → Int} {ws : List Int} (hP : rxPBSK S0 ws) : rx_obK X S0 rxCBSK.2.2.1 rxCPU.2.2.1 (rxIBSK S0 ws) (rxmBSK S0 ws) 5 6 rxzBSK_5 rxzBSK_6 [.inr (3, (0, 480)), .inr (0, (10, 0)), .inr (0, (0, 0))] none rxPPU rxPSPU := by
  intro S r hinv hXS I0 hin hs_ hf_
  have b_ := bx_bds_sat hs_
  have f_ := bx_fcl_ok hs_.1 hf_
  obtain ⟨⟨l8, u8⟩, ⟨l9, u9⟩, ⟨l10, u10⟩, -⟩ := b_
  have g := rxkBSK_5 hP hin I0 hinv l8 u8 l9 u9 l10 u10
  have ea : List.map (bx_num r) [.inr (3, (0, 480)), .inr (0, (10, 0)), .inr (0, (0, 0))] = [480, (r 10), 0] := by
    simp only [List.map_cons, List.map_nil, bx_xv_ok hs_.1]
    rfl
  rw [ea]
  refine ⟨g.1, fun S_p w r_p hPS hX_p I1 hsm hr hw hs_p => ?_⟩
  have hw : w = none := hPS.1
  subst hw
  have g2 := g.2 S_p hPS I1 hsm
  show rxIBSK_6 S0 ws S_p (r_p 8) (r_p 9) (r_p 10) ∧ rxmBSK_6 S0 ws S_p (r_p 8) (r_p 9) (r_p 10) < _
  rw [hr 8 (by decide), hr 9 (by decide), hr 10 (by decide)]
  exact g2
theorem rxkBSK_7 {S0 : Nat → Int → Int} {ws : List Int} {S : Nat → Int → Int} {test op : Int} (hP : rxPBSK S0 ws) (hin : bx_same rxL (bx_mdl rxCBSK.2.2.1) S0 S) (I0 : bx_Inv rxL S) (hinv : rxIBSK_7 S0 ws S test op) (l8 : 0 ≤ test) (u8 : test ≤ 1) (l9 : 20 ≤ op) (u9 : op ≤ 24) : rxPNXX S [480] ∧ ∀ (S_p : Nat → Int → Int), rxPSNXX S [480] S_p none → bx_Inv rxL S_p → bx_same rxL (bx_mdl rxCNXX.2.2.1) S S_p → rxIBSK_8 S0 ws S_p test op ∧ rxmBSK_8 S0 ws S_p test op < rxmBSK_7 S0 ws S test op := by
  obtain ⟨hI, hx⟩ := hinv
  have g_ := rxkBSW_7 hP hin I0 hI l8 u8 l9 u9
  exact ⟨g_.1, fun S_p hq I1 hsm => ⟨⟨(g_.2 S_p hq I1 hsm).1, (by
    intro c hD tst s rest hw r hc z14 zne b cc hC hW
    obtain ⟨g1, g2⟩ := hx.2 b cc hC hW
    have q_ := rkMd_of g1 I0 hsm (by decide +kernel)
    rcases (hx.1 hD).resolve_left (by omega) with ⟨o, h⟩ | ⟨o, h⟩ | ⟨o, h⟩ | ⟨o, h⟩ | ⟨o, h⟩
    · subst o
      rw [rkSt_sg (by rw [h]; decide) (by omega) (by omega), if_pos h]
      exact ⟨q_.1, g2.tr q_.2⟩
    · subst o
      rw [rkSt_sg (by rw [h]; decide) (by omega) (by omega), if_neg (show ¬ rzCut (S0 485) (S0 480 9) = 43 by omega), if_pos h]
      exact ⟨q_.1, g2.tr q_.2⟩
    · subst o
      rw [rkSt_sg (by rw [h]; decide) (by omega) (by omega), if_neg (show ¬ rzCut (S0 485) (S0 480 9) = 43 by omega), if_neg (show ¬ rzCut (S0 485) (S0 480 9) = 45 by omega), if_pos h]
      exact ⟨q_.1, g2.tr q_.2⟩
    · subst o
      rw [rkSt_sg (by rw [h]; decide) (by omega) (by omega), if_neg (show ¬ rzCut (S0 485) (S0 480 9) = 43 by omega), if_neg (show ¬ rzCut (S0 485) (S0 480 9) = 45 by omega), if_neg (show ¬ rzCut (S0 485) (S0 480 9) = 42 by omega), if_pos h]
      exact ⟨q_.1, g2.tr q_.2⟩
    · subst o
      rw [rkSt_sg (by rw [h]; decide) (by omega) (by omega), if_neg (show ¬ rzCut (S0 485) (S0 480 9) = 43 by omega), if_neg (show ¬ rzCut (S0 485) (S0 480 9) = 45 by omega), if_neg (show ¬ rzCut (S0 485) (S0 480 9) = 42 by omega), if_neg (show ¬ rzCut (S0 485) (S0 480 9) = 47 by omega), if_pos h]
      exact ⟨q_.1, g2.tr q_.2⟩)⟩, (g_.2 S_p hq I1 hsm).2⟩⟩
theorem rxsBSK_7 {X : (Nat → Int → Int) → Prop} {S0 : Nat → Int → Int} {ws : List Int} (hP : rxPBSK S0 ws) : rx_obK X S0 rxCBSK.2.2.1 rxCNXX.2.2.1 (rxIBSK S0 ws) (rxmBSK S0 ws) 7 8 rxzBSK_7 rxzBSK_8 [.inr (3, (0, 480))] none rxPNXX rxPSNXX := by
  intro S r hinv hXS I0 hin hs_ hf_
  have b_ := bx_bds_sat hs_
  have f_ := bx_fcl_ok hs_.1 hf_
  obtain ⟨⟨l8, u8⟩, ⟨l9, u9⟩, -⟩ := b_
  have g := rxkBSK_7 hP hin I0 hinv l8 u8 l9 u9
  have ea : List.map (bx_num r) [.inr (3, (0, 480))] = [480] := by
    simp only [List.map_cons, List.map_nil, bx_xv_ok hs_.1]
    rfl
  rw [ea]
  refine ⟨g.1, fun S_p w r_p hPS hX_p I1 hsm hr hw hs_p => ?_⟩
  have hw : w = none := hPS.1
  subst hw
  have g2 := g.2 S_p hPS I1 hsm
  show rxIBSK_8 S0 ws S_p (r_p 8) (r_p 9) ∧ rxmBSK_8 S0 ws S_p (r_p 8) (r_p 9) < _
  rw [hr 8 (by decide), hr 9 (by decide)]
  exact g2
theorem rxkBSK_9 {S0 : Nat → Int → Int} {ws : List Int} {S : Nat → Int → Int} {test : Int} (hP : rxPBSK S0 ws) (hin : bx_same rxL (bx_mdl rxCBSK.2.2.1) S0 S) (I0 : bx_Inv rxL S) (hinv : rxIBSK_9 S0 ws S test) (l8 : 0 ≤ test) (u8 : test ≤ 1) : rxPIN S [480] ∧ ∀ (S_p : Nat → Int → Int) (its : Int), (-1) ≤ its → its ≤ 32 → rxPSIN S [480] S_p (some its) → bx_Inv rxL S_p → bx_same rxL (bx_mdl rxCIN.2.2.1) S S_p → rxIBSK_10 S0 ws S_p test its ∧ rxmBSK_10 S0 ws S_p test its < rxmBSK_9 S0 ws S test := by
  obtain ⟨hI, hx⟩ := hinv
  have g_ := rxkBSW_9 hP hin I0 hI l8 u8
  exact ⟨g_.1, fun S_p its l_ u_ hq I1 hsm => ⟨⟨(g_.2 S_p its l_ u_ hq I1 hsm).1, trivial⟩, (g_.2 S_p its l_ u_ hq I1 hsm).2⟩⟩
theorem rxsBSK_9 {X : (Nat → Int → Int) → Prop} {S0 : Nat → Int → Int} {ws : List Int} (hP : rxPBSK S0 ws) : rx_obK X S0 rxCBSK.2.2.1 rxCIN.2.2.1 (rxIBSK S0 ws) (rxmBSK S0 ws) 9 10 rxzBSK_9 rxzBSK_10 [.inr (3, (0, 480))] (some 9) rxPIN rxPSIN := by
  intro S r hinv hXS I0 hin hs_ hf_
  have b_ := bx_bds_sat hs_
  have f_ := bx_fcl_ok hs_.1 hf_
  obtain ⟨⟨l8, u8⟩, -⟩ := b_
  have g := rxkBSK_9 hP hin I0 hinv l8 u8
  have ea : List.map (bx_num r) [.inr (3, (0, 480))] = [480] := by
    simp only [List.map_cons, List.map_nil, bx_xv_ok hs_.1]
    rfl
  rw [ea]
  refine ⟨g.1, fun S_p w r_p hPS hX_p I1 hsm hr hw hs_p => ?_⟩
  have hw := hw _ rfl
  subst hw
  have b_p := hs_p.2.2 9 _ _ rfl
  have g2 := g.2 S_p (r_p 9) b_p.1 b_p.2 hPS I1 hsm
  show rxIBSK_10 S0 ws S_p (r_p 8) (r_p 9) ∧ rxmBSK_10 S0 ws S_p (r_p 8) (r_p 9) < _
  rw [hr 8 (by decide)]
  exact g2
theorem rxkBSK_11 {S0 : Nat → Int → Int} {ws : List Int} {S : Nat → Int → Int} {test : Int} (hP : rxPBSK S0 ws) (hin : bx_same rxL (bx_mdl rxCBSK.2.2.1) S0 S) (I0 : bx_Inv rxL S) (hinv : rxIBSK_11 S0 ws S test) (l8 : 0 ≤ test) (u8 : test ≤ 1) : rxPISW S [480, 93] ∧ ∀ (S_p : Nat → Int → Int) (is : Int), 0 ≤ is → is ≤ 1 → rxPSISW S [480, 93] S_p (some is) → bx_Inv rxL S_p → bx_same rxL (bx_mdl rxCISW.2.2.1) S S_p → rxIBSK_12 S0 ws S_p test is ∧ rxmBSK_12 S0 ws S_p test is < rxmBSK_11 S0 ws S test := by
  obtain ⟨hI, hx⟩ := hinv
  have g_ := rxkBSW_11 hP hin I0 hI l8 u8
  exact ⟨g_.1, fun S_p is l_ u_ hq I1 hsm => ⟨⟨(g_.2 S_p is l_ u_ hq I1 hsm).1, trivial⟩, (g_.2 S_p is l_ u_ hq I1 hsm).2⟩⟩
theorem rxsBSK_11 {X : (Nat → Int → Int) → Prop} {S0 : Nat → Int → Int} {ws : List Int} (hP : rxPBSK S0 ws) : rx_obK X S0 rxCBSK.2.2.1 rxCISW.2.2.1 (rxIBSK S0 ws) (rxmBSK S0 ws) 11 12 rxzBSK_11 rxzBSK_12 [.inr (3, (0, 480)), .inr (0, (0, 93))] (some 9) rxPISW rxPSISW := by
  intro S r hinv hXS I0 hin hs_ hf_
  have b_ := bx_bds_sat hs_
  have f_ := bx_fcl_ok hs_.1 hf_
  obtain ⟨⟨l8, u8⟩, -⟩ := b_
  have g := rxkBSK_11 hP hin I0 hinv l8 u8
  have ea : List.map (bx_num r) [.inr (3, (0, 480)), .inr (0, (0, 93))] = [480, 93] := by
    simp only [List.map_cons, List.map_nil, bx_xv_ok hs_.1]
    rfl
  rw [ea]
  refine ⟨g.1, fun S_p w r_p hPS hX_p I1 hsm hr hw hs_p => ?_⟩
  have hw := hw _ rfl
  subst hw
  have b_p := hs_p.2.2 9 _ _ rfl
  have g2 := g.2 S_p (r_p 9) b_p.1 b_p.2 hPS I1 hsm
  show rxIBSK_12 S0 ws S_p (r_p 8) (r_p 9) ∧ rxmBSK_12 S0 ws S_p (r_p 8) (r_p 9) < _
  rw [hr 8 (by decide)]
  exact g2
theorem rxkBSK_12 {S0 : Nat → Int → Int} {ws : List Int} {S : Nat → Int → Int} {test is : Int} (hP : rxPBSK S0 ws) (hin : bx_same rxL (bx_mdl rxCBSK.2.2.1) S0 S) (I0 : bx_Inv rxL S) (hinv : rxIBSK_12 S0 ws S test is) (l8 : 0 ≤ test) (u8 : test ≤ 1) (l9 : 0 ≤ is) (u9 : is ≤ 1) : rxPMUW S [480, is] ∧ ∀ (S_p : Nat → Int → Int), rxPSMUW S [480, is] S_p none → bx_Inv rxL S_p → bx_same rxL (bx_mdl rxCMUW.2.2.1) S S_p → rxIBSK_13 S0 ws S_p test is ∧ rxmBSK_13 S0 ws S_p test is < rxmBSK_12 S0 ws S test is := by
  obtain ⟨hI, hx⟩ := hinv
  have g_ := rxkBSW_12 hP hin I0 hI l8 u8 l9 u9
  exact ⟨g_.1, fun S_p hq I1 hsm => ⟨⟨(g_.2 S_p hq I1 hsm).1, (by
    have e := hI.1.1
    subst e
    exact fun b c hC => rkMd_of hC I0 hsm (by decide +kernel))⟩, (g_.2 S_p hq I1 hsm).2⟩⟩
theorem rxsBSK_12 {X : (Nat → Int → Int) → Prop} {S0 : Nat → Int → Int} {ws : List Int} (hP : rxPBSK S0 ws) : rx_obK X S0 rxCBSK.2.2.1 rxCMUW.2.2.1 (rxIBSK S0 ws) (rxmBSK S0 ws) 12 13 rxzBSK_12 rxzBSK_13 [.inr (3, (0, 480)), .inr (0, (9, 0))] none rxPMUW rxPSMUW := by
  intro S r hinv hXS I0 hin hs_ hf_
  have b_ := bx_bds_sat hs_
  have f_ := bx_fcl_ok hs_.1 hf_
  obtain ⟨⟨l8, u8⟩, ⟨l9, u9⟩, -⟩ := b_
  have g := rxkBSK_12 hP hin I0 hinv l8 u8 l9 u9
  have ea : List.map (bx_num r) [.inr (3, (0, 480)), .inr (0, (9, 0))] = [480, (r 9)] := by
    simp only [List.map_cons, List.map_nil, bx_xv_ok hs_.1]
    rfl
  rw [ea]
  refine ⟨g.1, fun S_p w r_p hPS hX_p I1 hsm hr hw hs_p => ?_⟩
  have hw : w = none := hPS.1
  subst hw
  have g2 := g.2 S_p hPS I1 hsm
  show rxIBSK_13 S0 ws S_p (r_p 8) (r_p 9) ∧ rxmBSK_13 S0 ws S_p (r_p 8) (r_p 9) < _
  rw [hr 8 (by decide), hr 9 (by decide)]
  exact g2
theorem rxkBSK_14 {S0 : Nat → Int → Int} {ws : List Int} {S : Nat → Int → Int} {test : Int} (hP : rxPBSK S0 ws) (hin : bx_same rxL (bx_mdl rxCBSK.2.2.1) S0 S) (I0 : bx_Inv rxL S) (hinv : rxIBSK_14 S0 ws S test) (l8 : 0 ≤ test) (u8 : test ≤ 1) : rxPSTK S [480, 5] ∧ ∀ (S_p : Nat → Int → Int), rxPSSTK S [480, 5] S_p none → bx_Inv rxL S_p → bx_same rxL (bx_mdl rxCSTK.2.2.1) S S_p → rxIBSK_15 S0 ws S_p test ∧ rxmBSK_15 S0 ws S_p test < rxmBSK_14 S0 ws S test := by
  obtain ⟨hI, hx⟩ := hinv
  have g_ := rxkBSW_14 hP hin I0 hI l8 u8
  exact ⟨g_.1, fun S_p hq I1 hsm => ⟨⟨(g_.2 S_p hq.2.1 I1 hsm).1, (by
    obtain ⟨l2, hw2, hm⟩ := hq.2.2
    have e2 : (5 : Int) = l2 := Option.some.inj (congrArg (fun l : List Int => l[1]?) hw2)
    subst e2
    intro b c hC hW
    obtain ⟨g1, g2⟩ := hx b c hC
    obtain ⟨k1, k2⟩ := hm b c g1 hW
    exact ⟨k1, g2.tr k2⟩)⟩, (g_.2 S_p hq.2.1 I1 hsm).2⟩⟩
theorem rxsBSK_14 {X : (Nat → Int → Int) → Prop} {S0 : Nat → Int → Int} {ws : List Int} (hP : rxPBSK S0 ws) : rx_obK X S0 rxCBSK.2.2.1 rxCSTK.2.2.1 (rxIBSK S0 ws) (rxmBSK S0 ws) 14 15 rxzBSK_14 rxzBSK_15 [.inr (3, (0, 480)), .inr (0, (0, 5))] none rxPSTK rxPSSTK := by
  intro S r hinv hXS I0 hin hs_ hf_
  have b_ := bx_bds_sat hs_
  have f_ := bx_fcl_ok hs_.1 hf_
  obtain ⟨⟨l8, u8⟩, -⟩ := b_
  have g := rxkBSK_14 hP hin I0 hinv l8 u8
  have ea : List.map (bx_num r) [.inr (3, (0, 480)), .inr (0, (0, 5))] = [480, 5] := by
    simp only [List.map_cons, List.map_nil, bx_xv_ok hs_.1]
    rfl
  rw [ea]
  refine ⟨g.1, fun S_p w r_p hPS hX_p I1 hsm hr hw hs_p => ?_⟩
  have hw : w = none := hPS.1
  subst hw
  have g2 := g.2 S_p hPS I1 hsm
  show rxIBSK_15 S0 ws S_p (r_p 8) ∧ rxmBSK_15 S0 ws S_p (r_p 8) < _
  rw [hr 8 (by decide)]
  exact g2
theorem rxkBSK_18 {S0 : Nat → Int → Int} {ws : List Int} {S : Nat → Int → Int} {test : Int} (hP : rxPBSK S0 ws) (hin : bx_same rxL (bx_mdl rxCBSK.2.2.1) S0 S) (I0 : bx_Inv rxL S) (hinv : rxIBSK_18 S0 ws S test) (l8 : 0 ≤ test) (u8 : test ≤ 1) : rxPICW S [480] ∧ ∀ (S_p : Nat → Int → Int) (cmp : Int), 0 ≤ cmp → cmp ≤ 1 → rxPSICW S [480] S_p (some cmp) → bx_Inv rxL S_p → bx_same rxL (bx_mdl rxCICW.2.2.1) S S_p → rxIBSK_19 S0 ws S_p test cmp ∧ rxmBSK_19 S0 ws S_p test cmp < rxmBSK_18 S0 ws S test := by
  obtain ⟨hI, hx⟩ := hinv
  have g_ := rxkBSW_18 hP hin I0 hI l8 u8
  exact ⟨g_.1, fun S_p cmp l_ u_ hq I1 hsm => ⟨⟨(g_.2 S_p cmp l_ u_ hq I1 hsm).1, trivial⟩, (g_.2 S_p cmp l_ u_ hq I1 hsm).2⟩⟩
theorem rxsBSK_18 {X : (Nat → Int → Int) → Prop} {S0 : Nat → Int → Int} {ws : List Int} (hP : rxPBSK S0 ws) : rx_obK X S0 rxCBSK.2.2.1 rxCICW.2.2.1 (rxIBSK S0 ws) (rxmBSK S0 ws) 18 19 rxzBSK_18 rxzBSK_19 [.inr (3, (0, 480))] (some 9) rxPICW rxPSICW := by
  intro S r hinv hXS I0 hin hs_ hf_
  have b_ := bx_bds_sat hs_
  have f_ := bx_fcl_ok hs_.1 hf_
  obtain ⟨⟨l8, u8⟩, -⟩ := b_
  have g := rxkBSK_18 hP hin I0 hinv l8 u8
  have ea : List.map (bx_num r) [.inr (3, (0, 480))] = [480] := by
    simp only [List.map_cons, List.map_nil, bx_xv_ok hs_.1]
    rfl
  rw [ea]
  refine ⟨g.1, fun S_p w r_p hPS hX_p I1 hsm hr hw hs_p => ?_⟩
  have hw := hw _ rfl
  subst hw
  have b_p := hs_p.2.2 9 _ _ rfl
  have g2 := g.2 S_p (r_p 9) b_p.1 b_p.2 hPS I1 hsm
  show rxIBSK_19 S0 ws S_p (r_p 8) (r_p 9) ∧ rxmBSK_19 S0 ws S_p (r_p 8) (r_p 9) < _
  rw [hr 8 (by decide)]
  exact g2
theorem rxkBSK_20 {S0 : Nat → Int → Int} {ws : List Int} {S : Nat → Int → Int} {test op is : Int} (hP : rxPBSK S0 ws) (hin : bx_same rxL (bx_mdl rxCBSK.2.2.1) S0 S) (I0 : bx_Inv rxL S) (hinv : rxIBSK_20 S0 ws S test op is) (l8 : 0 ≤ test) (u8 : test ≤ 1) (l9 : 25 ≤ op) (u9 : op ≤ 27) (l10 : 0 ≤ is) (u10 : is ≤ 1) : rxPMUW S [480, is] ∧ ∀ (S_p : Nat → Int → Int), rxPSMUW S [480, is] S_p none → bx_Inv rxL S_p → bx_same rxL (bx_mdl rxCMUW.2.2.1) S S_p → rxIBSK_21 S0 ws S_p test op is ∧ rxmBSK_21 S0 ws S_p test op is < rxmBSK_20 S0 ws S test op is := by
  obtain ⟨hI, hx⟩ := hinv
  have g_ := rxkBSW_20 hP hin I0 hI l8 u8 l9 u9 l10 u10
  exact ⟨g_.1, fun S_p hq I1 hsm => ⟨⟨(g_.2 S_p hq I1 hsm).1, (by
    have e := hI.1.1
    subst e
    refine ⟨fun b c hC => rkMd_of hC I0 hsm (by decide +kernel), fun hD z => hx hD ?_⟩
    obtain ⟨-, -, is2, hw2, hc⟩ := hq.2.1
    have he : is = is2 := Option.some.inj (congrArg (fun l : List Int => l[1]?) hw2)
    omega)⟩, (g_.2 S_p hq I1 hsm).2⟩⟩
theorem rxsBSK_20 {X : (Nat → Int → Int) → Prop} {S0 : Nat → Int → Int} {ws : List Int} (hP : rxPBSK S0 ws) : rx_obK X S0 rxCBSK.2.2.1 rxCMUW.2.2.1 (rxIBSK S0 ws) (rxmBSK S0 ws) 20 21 rxzBSK_20 rxzBSK_21 [.inr (3, (0, 480)), .inr (0, (10, 0))] none rxPMUW rxPSMUW := by
  intro S r hinv hXS I0 hin hs_ hf_
  have b_ := bx_bds_sat hs_
  have f_ := bx_fcl_ok hs_.1 hf_
  obtain ⟨⟨l8, u8⟩, ⟨l9, u9⟩, ⟨l10, u10⟩, -⟩ := b_
  have g := rxkBSK_20 hP hin I0 hinv l8 u8 l9 u9 l10 u10
  have ea : List.map (bx_num r) [.inr (3, (0, 480)), .inr (0, (10, 0))] = [480, (r 10)] := by
    simp only [List.map_cons, List.map_nil, bx_xv_ok hs_.1]
    rfl
  rw [ea]
  refine ⟨g.1, fun S_p w r_p hPS hX_p I1 hsm hr hw hs_p => ?_⟩
  have hw : w = none := hPS.1
  subst hw
  have g2 := g.2 S_p hPS I1 hsm
  show rxIBSK_21 S0 ws S_p (r_p 8) (r_p 9) (r_p 10) ∧ rxmBSK_21 S0 ws S_p (r_p 8) (r_p 9) (r_p 10) < _
  rw [hr 8 (by decide), hr 9 (by decide), hr 10 (by decide)]
  exact g2
theorem rxkBSK_22 {S0 : Nat → Int → Int} {ws : List Int} {S : Nat → Int → Int} {test op : Int} (hP : rxPBSK S0 ws) (hin : bx_same rxL (bx_mdl rxCBSK.2.2.1) S0 S) (I0 : bx_Inv rxL S) (hinv : rxIBSK_22 S0 ws S test op) (l8 : 0 ≤ test) (u8 : test ≤ 1) (l9 : 25 ≤ op) (u9 : op ≤ 27) : rxPSTK S [480, 5] ∧ ∀ (S_p : Nat → Int → Int), rxPSSTK S [480, 5] S_p none → bx_Inv rxL S_p → bx_same rxL (bx_mdl rxCSTK.2.2.1) S S_p → rxIBSK_23 S0 ws S_p test op ∧ rxmBSK_23 S0 ws S_p test op < rxmBSK_22 S0 ws S test op := by
  obtain ⟨hI, hx⟩ := hinv
  have g_ := rxkBSW_22 hP hin I0 hI l8 u8 l9 u9
  exact ⟨g_.1, fun S_p hq I1 hsm => ⟨⟨(g_.2 S_p hq.2.1 I1 hsm).1, (by
    obtain ⟨l2, hw2, hm⟩ := hq.2.2
    have e2 : (5 : Int) = l2 := Option.some.inj (congrArg (fun l : List Int => l[1]?) hw2)
    subst e2
    refine ⟨fun b c hC hW => ?_, hx.2⟩
    obtain ⟨g1, g2⟩ := hx.1 b c hC
    obtain ⟨k1, k2⟩ := hm b c g1 hW
    exact ⟨k1, g2.tr k2⟩)⟩, (g_.2 S_p hq.2.1 I1 hsm).2⟩⟩
theorem rxsBSK_22 {X : (Nat → Int → Int) → Prop} {S0 : Nat → Int → Int} {ws : List Int} (hP : rxPBSK S0 ws) : rx_obK X S0 rxCBSK.2.2.1 rxCSTK.2.2.1 (rxIBSK S0 ws) (rxmBSK S0 ws) 22 23 rxzBSK_22 rxzBSK_23 [.inr (3, (0, 480)), .inr (0, (0, 5))] none rxPSTK rxPSSTK := by
  intro S r hinv hXS I0 hin hs_ hf_
  have b_ := bx_bds_sat hs_
  have f_ := bx_fcl_ok hs_.1 hf_
  obtain ⟨⟨l8, u8⟩, ⟨l9, u9⟩, -⟩ := b_
  have g := rxkBSK_22 hP hin I0 hinv l8 u8 l9 u9
  have ea : List.map (bx_num r) [.inr (3, (0, 480)), .inr (0, (0, 5))] = [480, 5] := by
    simp only [List.map_cons, List.map_nil, bx_xv_ok hs_.1]
    rfl
  rw [ea]
  refine ⟨g.1, fun S_p w r_p hPS hX_p I1 hsm hr hw hs_p => ?_⟩
  have hw : w = none := hPS.1
  subst hw
  have g2 := g.2 S_p hPS I1 hsm
  show rxIBSK_23 S0 ws S_p (r_p 8) (r_p 9) ∧ rxmBSK_23 S0 ws S_p (r_p 8) (r_p 9) < _
  rw [hr 8 (by decide), hr 9 (by decide)]
  exact g2
theorem rxkBSK_24 {S0 : Nat → Int → Int} {ws : List Int} {S : Nat → Int → Int} {test op op2 : Int} (hP : rxPBSK S0 ws) (hin : bx_same rxL (bx_mdl rxCBSK.2.2.1) S0 S) (I0 : bx_Inv rxL S) (hinv : rxIBSK_24 S0 ws S test op op2) (l8 : 0 ≤ test) (u8 : test ≤ 1) (l9 : 25 ≤ op) (u9 : op ≤ 27) (l10 : 25 ≤ op2) (u10 : op2 ≤ 27) : rxPPU S [480, op2, 0] ∧ ∀ (S_p : Nat → Int → Int), rxPSPU S [480, op2, 0] S_p none → bx_Inv rxL S_p → bx_same rxL (bx_mdl rxCPU.2.2.1) S S_p → rxIBSK_25 S0 ws S_p test op op2 ∧ rxmBSK_25 S0 ws S_p test op op2 < rxmBSK_24 S0 ws S test op op2 := by
  obtain ⟨hI, hx⟩ := hinv
  have g_ := rxkBSW_24 hP hin I0 hI l8 u8 l9 u9 l10 u10
  exact ⟨g_.1, fun S_p hq I1 hsm => ⟨⟨(g_.2 S_p hq I1 hsm).1, (by
    intro c hD tst s rest hw r hc z14 zne b cc hC hW
    obtain ⟨⟨hw1, ns, its, hi, i1, i2⟩, hcm, h14, hh⟩ := hI.2
    have ht : test = tst := Option.some.inj (congrArg (fun l : List Int => l[1]?) (hw1.symm.trans hw))
    obtain ⟨-, o2, a2, hw3, e3⟩ := hq
    have he : op2 = o2 := Option.some.inj (congrArg (fun l : List Int => l[1]?) hw3)
    have h1 := hx.1
    have q := rzBr_in r.2.2 r.1 hi
    have hs : s = 2 := by
      by_cases h3 : s = 3
      · exact absurd ((rzBr_cm r.2.2 r.1 (Or.inr h3)).mpr h3) hcm
      · omega
    subst hs
    subst e3
    obtain ⟨g1, g2⟩ := hx.2.1 b cc hC hW
    have q_ := rkMd_pu (op := o2) (a := 0) (x := a2) g1 (fun g => by rcases g with g | g <;> omega)
    rw [← rkRed_cm hC hW r] at q_
    rcases hx.2.2 hD with ⟨o, h⟩ | ⟨o, h⟩ | ⟨o, h⟩
    · rw [show o2 = 25 by omega] at q_ ⊢
      rw [rkSt_sg (by rw [h]; decide) (by omega) (by omega), if_neg (show ¬ rzCut (S0 485) (S0 480 9) = 43 by omega), if_neg (show ¬ rzCut (S0 485) (S0 480 9) = 45 by omega), if_neg (show ¬ rzCut (S0 485) (S0 480 9) = 42 by omega), if_neg (show ¬ rzCut (S0 485) (S0 480 9) = 47 by omega), if_neg (show ¬ rzCut (S0 485) (S0 480 9) = 37 by omega), if_pos h]
      exact ⟨q_.1, g2.tr q_.2⟩
    · rw [show o2 = 26 by omega] at q_ ⊢
      rw [rkSt_sg (by rw [h]; decide) (by omega) (by omega), if_neg (show ¬ rzCut (S0 485) (S0 480 9) = 43 by omega), if_neg (show ¬ rzCut (S0 485) (S0 480 9) = 45 by omega), if_neg (show ¬ rzCut (S0 485) (S0 480 9) = 42 by omega), if_neg (show ¬ rzCut (S0 485) (S0 480 9) = 47 by omega), if_neg (show ¬ rzCut (S0 485) (S0 480 9) = 37 by omega), if_neg (show ¬ rzCut (S0 485) (S0 480 9) = 60 by omega), if_pos h]
      exact ⟨q_.1, g2.tr q_.2⟩
    · rw [show o2 = 27 by omega] at q_ ⊢
      rw [rkSt_sg (by rw [h]; decide) (by omega) (by omega), if_neg (show ¬ rzCut (S0 485) (S0 480 9) = 43 by omega), if_neg (show ¬ rzCut (S0 485) (S0 480 9) = 45 by omega), if_neg (show ¬ rzCut (S0 485) (S0 480 9) = 42 by omega), if_neg (show ¬ rzCut (S0 485) (S0 480 9) = 47 by omega), if_neg (show ¬ rzCut (S0 485) (S0 480 9) = 37 by omega), if_neg (show ¬ rzCut (S0 485) (S0 480 9) = 60 by omega), if_neg (show ¬ rzCut (S0 485) (S0 480 9) = 62 by omega)]
      exact ⟨q_.1, g2.tr q_.2⟩)⟩, (g_.2 S_p hq I1 hsm).2⟩⟩
theorem rxsBSK_24 {X : (Nat → Int → Int) → Prop} {S0 : Nat → Int → Int} {ws : List Int} (hP : rxPBSK S0 ws) : rx_obK X S0 rxCBSK.2.2.1 rxCPU.2.2.1 (rxIBSK S0 ws) (rxmBSK S0 ws) 24 25 rxzBSK_24 rxzBSK_25 [.inr (3, (0, 480)), .inr (0, (10, 0)), .inr (0, (0, 0))] none rxPPU rxPSPU := by
  intro S r hinv hXS I0 hin hs_ hf_
  have b_ := bx_bds_sat hs_
  have f_ := bx_fcl_ok hs_.1 hf_
  obtain ⟨⟨l8, u8⟩, ⟨l9, u9⟩, ⟨l10, u10⟩, -⟩ := b_
  have g := rxkBSK_24 hP hin I0 hinv l8 u8 l9 u9 l10 u10
  have ea : List.map (bx_num r) [.inr (3, (0, 480)), .inr (0, (10, 0)), .inr (0, (0, 0))] = [480, (r 10), 0] := by
    simp only [List.map_cons, List.map_nil, bx_xv_ok hs_.1]
    rfl
  rw [ea]
  refine ⟨g.1, fun S_p w r_p hPS hX_p I1 hsm hr hw hs_p => ?_⟩
  have hw : w = none := hPS.1
  subst hw
  have g2 := g.2 S_p hPS I1 hsm
  show rxIBSK_25 S0 ws S_p (r_p 8) (r_p 9) (r_p 10) ∧ rxmBSK_25 S0 ws S_p (r_p 8) (r_p 9) (r_p 10) < _
  rw [hr 8 (by decide), hr 9 (by decide), hr 10 (by decide)]
  exact g2
theorem rxcBSK_0_0 {S0 : Nat → Int → Int} {ws : List Int} {S : Nat → Int → Int} {test x9 : Int} (hP : rxPBSK S0 ws) (hin : bx_same rxL (bx_mdl rxCBSK.2.2.1) S0 S) (I0 : bx_Inv rxL S) (hinv : rxIBSK_0 S0 ws S test) (l8 : 0 ≤ test) (u8 : test ≤ 1) (l9 : 0 ≤ x9) (u9 : x9 ≤ 2) (f0 : x9 ≠ 3) (f1 : x9 ≠ 3) (f2 : x9 ≠ 3) (f3 : x9 ≠ 3) (f4 : x9 ≠ 3) (e0 : S 480 11 = x9) : (True) ∧ (True) ∧ rxIBSK_1 S0 ws S test ((-1)) ∧ rxmBSK_1 S0 ws S test ((-1)) < rxmBSK_0 S0 ws S test := by
  obtain ⟨hI, hx⟩ := hinv
  obtain ⟨a_, b_, c_, d_⟩ := rxcBSW_0_0 hP hin I0 hI l8 u8 l9 u9 f0 f1 f2 f3 f4 e0
  exact ⟨a_, b_, ⟨c_, (fun _ => Or.inl rfl)⟩, d_⟩
theorem rxgBSK_0_0 {X : (Nat → Int → Int) → Prop} {S0 : Nat → Int → Int} {ws : List Int} (hP : rxPBSK S0 ws) : bx_obC rxL X S0 rxCBSK.2.2.1 (rxIBSK S0 ws) (rxmBSK S0 ws) 0 rxzBSK_0 rxoBSK_0_0 := by
  intro S S_p r r_p hinv hX hin hsm_ hseg
  obtain ⟨I0, I1, h0_, hr_, b_, f_, d_⟩ := bx_cl (evs := [(0, (0, 480), (0, 11), .inr (0, (9, 0)))]) (fvs := [(3, (9, 0), (0, 3), (0, 0)), (3, (9, 0), (0, 3), (0, 0)), (3, (9, 0), (0, 3), (0, 0)), (3, (9, 0), (0, 3), (0, 0)), (3, (9, 0), (0, 3), (0, 0))]) hseg (by decide +kernel) (by decide +kernel)
  have hinv : rxIBSK_0 S0 ws S (r 8) := hinv
  rw [← hr_ 8 (by decide)] at hinv
  obtain ⟨⟨l8, u8⟩, ⟨l9, u9⟩, -⟩ := b_
  obtain ⟨f0, f1, f2, f3, f4, -⟩ := f_
  obtain ⟨e0, w_⟩ := d_
  subst w_
  have g := rxcBSK_0_0 hP hin I0 hinv l8 u8 l9 u9 f0 f1 f2 f3 f4 e0
  refine ⟨bx_narP_ok (l := []) g.1, bx_nfP_ok h0_ (fvs := []) (by decide +kernel) g.2.1, ?_, ?_⟩
  · show rxIBSK_1 S0 ws S_p (bx_val [(0, 0), (0, 0), (0, 0), (0, 0), (0, 0), (0, 0), (0, 0), (0, 0), (8, 0), (0, (-1))] r_p 8) (bx_val [(0, 0), (0, 0), (0, 0), (0, 0), (0, 0), (0, 0), (0, 0), (0, 0), (8, 0), (0, (-1))] r_p 9)
    rw [bx_val_x (n := 8) (e := (8, 0)) h0_ rfl, bx_val_x (n := 9) (e := (0, (-1))) h0_ rfl]
    exact g.2.2.1
  · show rxmBSK_1 S0 ws S_p (bx_val [(0, 0), (0, 0), (0, 0), (0, 0), (0, 0), (0, 0), (0, 0), (0, 0), (8, 0), (0, (-1))] r_p 8) (bx_val [(0, 0), (0, 0), (0, 0), (0, 0), (0, 0), (0, 0), (0, 0), (0, 0), (8, 0), (0, (-1))] r_p 9) < rxmBSK_0 S0 ws S_p (r 8)
    rw [bx_val_x (n := 8) (e := (8, 0)) h0_ rfl, bx_val_x (n := 9) (e := (0, (-1))) h0_ rfl, ← hr_ 8 (by decide)]
    exact g.2.2.2
theorem rxcBSK_0_1 {S0 : Nat → Int → Int} {ws : List Int} {S : Nat → Int → Int} {test x9 x10 : Int} (hP : rxPBSK S0 ws) (hin : bx_same rxL (bx_mdl rxCBSK.2.2.1) S0 S) (I0 : bx_Inv rxL S) (hinv : rxIBSK_0 S0 ws S test) (l8 : 0 ≤ test) (u8 : test ≤ 1) (l9 : 3 ≤ x9) (u9 : x9 ≤ 3) (l10 : (-9223372036854775808) ≤ x10) (u10 : x10 ≤ 9223372036854775807) (f0 : x10 ≠ 37) (f1 : x10 ≠ 47) (f2 : x10 ≠ 42) (f3 : x10 ≠ 45) (f4 : x10 ≠ 43) (e1 : S 480 11 = x9) (e0 : S 480 12 = x10) : (True) ∧ (True) ∧ rxIBSK_1 S0 ws S test ((-1)) ∧ rxmBSK_1 S0 ws S test ((-1)) < rxmBSK_0 S0 ws S test := by
  obtain ⟨hI, hx⟩ := hinv
  obtain ⟨a_, b_, c_, d_⟩ := rxcBSW_0_1 hP hin I0 hI l8 u8 l9 u9 l10 u10 f0 f1 f2 f3 f4 e1 e0
  exact ⟨a_, b_, ⟨c_, (fun _ => Or.inl rfl)⟩, d_⟩
theorem rxgBSK_0_1 {X : (Nat → Int → Int) → Prop} {S0 : Nat → Int → Int} {ws : List Int} (hP : rxPBSK S0 ws) : bx_obC rxL X S0 rxCBSK.2.2.1 (rxIBSK S0 ws) (rxmBSK S0 ws) 0 rxzBSK_0 rxoBSK_0_1 := by
  intro S S_p r r_p hinv hX hin hsm_ hseg
  obtain ⟨I0, I1, h0_, hr_, b_, f_, d_⟩ := bx_cl (evs := [(0, (0, 480), (0, 12), .inr (1, (10, 0))), (0, (0, 480), (0, 11), .inr (0, (9, 0)))]) (fvs := [(3, (10, 0), (0, 37), (0, 0)), (3, (10, 0), (0, 47), (0, 0)), (3, (10, 0), (0, 42), (0, 0)), (3, (10, 0), (0, 45), (0, 0)), (3, (10, 0), (0, 43), (0, 0))]) hseg (by decide +kernel) (by decide +kernel)
  have hinv : rxIBSK_0 S0 ws S (r 8) := hinv
  rw [← hr_ 8 (by decide)] at hinv
  obtain ⟨⟨l8, u8⟩, ⟨l9, u9⟩, ⟨l10, u10⟩, -⟩ := b_
  obtain ⟨f0, f1, f2, f3, f4, -⟩ := f_
  obtain ⟨e0, ⟨e1, w_⟩⟩ := d_
  subst w_
  have g := rxcBSK_0_1 hP hin I0 hinv l8 u8 l9 u9 l10 u10 f0 f1 f2 f3 f4 e1 e0
  refine ⟨bx_narP_ok (l := []) g.1, bx_nfP_ok h0_ (fvs := []) (by decide +kernel) g.2.1, ?_, ?_⟩
  · show rxIBSK_1 S0 ws S_p (bx_val [(0, 0), (0, 0), (0, 0), (0, 0), (0, 0), (0, 0), (0, 0), (0, 0), (8, 0), (0, (-1))] r_p 8) (bx_val [(0, 0), (0, 0), (0, 0), (0, 0), (0, 0), (0, 0), (0, 0), (0, 0), (8, 0), (0, (-1))] r_p 9)
    rw [bx_val_x (n := 8) (e := (8, 0)) h0_ rfl, bx_val_x (n := 9) (e := (0, (-1))) h0_ rfl]
    exact g.2.2.1
  · show rxmBSK_1 S0 ws S_p (bx_val [(0, 0), (0, 0), (0, 0), (0, 0), (0, 0), (0, 0), (0, 0), (0, 0), (8, 0), (0, (-1))] r_p 8) (bx_val [(0, 0), (0, 0), (0, 0), (0, 0), (0, 0), (0, 0), (0, 0), (0, 0), (8, 0), (0, (-1))] r_p 9) < rxmBSK_0 S0 ws S_p (r 8)
    rw [bx_val_x (n := 8) (e := (8, 0)) h0_ rfl, bx_val_x (n := 9) (e := (0, (-1))) h0_ rfl, ← hr_ 8 (by decide)]
    exact g.2.2.2
theorem rxcBSK_0_2 {S0 : Nat → Int → Int} {ws : List Int} {S : Nat → Int → Int} {test x9 x10 : Int} (hP : rxPBSK S0 ws) (hin : bx_same rxL (bx_mdl rxCBSK.2.2.1) S0 S) (I0 : bx_Inv rxL S) (hinv : rxIBSK_0 S0 ws S test) (l8 : 0 ≤ test) (u8 : test ≤ 1) (l9 : 3 ≤ x9) (u9 : x9 ≤ 3) (l10 : 37 ≤ x10) (u10 : x10 ≤ 37) (f0 : x10 ≠ 47) (f1 : x10 ≠ 42) (f2 : x10 ≠ 45) (f3 : x10 ≠ 43) (e1 : S 480 11 = x9) (e0 : S 480 12 = x10) : (True) ∧ (True) ∧ rxIBSK_1 S0 ws S test 24 ∧ rxmBSK_1 S0 ws S test 24 < rxmBSK_0 S0 ws S test := by
  obtain ⟨hI, hx⟩ := hinv
  obtain ⟨a_, b_, c_, d_⟩ := rxcBSW_0_2 hP hin I0 hI l8 u8 l9 u9 l10 u10 f0 f1 f2 f3 e1 e0
  exact ⟨a_, b_, ⟨c_, (by
    intro hD
    have e := hI.1.1
    subst e
    have q := (of_decide_eq_true ((rzDq_sg hD (c := 37) (by decide) (by decide)).mp ⟨by omega, by omega⟩) : _ < _ ∧ _ = _).2
    exact Or.inr (Or.inr (Or.inr (Or.inr (Or.inr (⟨rfl, q⟩))))))⟩, d_⟩
theorem rxgBSK_0_2 {X : (Nat → Int → Int) → Prop} {S0 : Nat → Int → Int} {ws : List Int} (hP : rxPBSK S0 ws) : bx_obC rxL X S0 rxCBSK.2.2.1 (rxIBSK S0 ws) (rxmBSK S0 ws) 0 rxzBSK_0 rxoBSK_0_2 := by
  intro S S_p r r_p hinv hX hin hsm_ hseg
  obtain ⟨I0, I1, h0_, hr_, b_, f_, d_⟩ := bx_cl (evs := [(0, (0, 480), (0, 12), .inr (1, (10, 0))), (0, (0, 480), (0, 11), .inr (0, (9, 0)))]) (fvs := [(3, (10, 0), (0, 47), (0, 0)), (3, (10, 0), (0, 42), (0, 0)), (3, (10, 0), (0, 45), (0, 0)), (3, (10, 0), (0, 43), (0, 0))]) hseg (by decide +kernel) (by decide +kernel)
  have hinv : rxIBSK_0 S0 ws S (r 8) := hinv
  rw [← hr_ 8 (by decide)] at hinv
  obtain ⟨⟨l8, u8⟩, ⟨l9, u9⟩, ⟨l10, u10⟩, -⟩ := b_
  obtain ⟨f0, f1, f2, f3, -⟩ := f_
  obtain ⟨e0, ⟨e1, w_⟩⟩ := d_
  subst w_
  have g := rxcBSK_0_2 hP hin I0 hinv l8 u8 l9 u9 l10 u10 f0 f1 f2 f3 e1 e0
  refine ⟨bx_narP_ok (l := []) g.1, bx_nfP_ok h0_ (fvs := []) (by decide +kernel) g.2.1, ?_, ?_⟩
  · show rxIBSK_1 S0 ws S_p (bx_val [(0, 0), (0, 0), (0, 0), (0, 0), (0, 0), (0, 0), (0, 0), (0, 0), (8, 0), (0, 24)] r_p 8) (bx_val [(0, 0), (0, 0), (0, 0), (0, 0), (0, 0), (0, 0), (0, 0), (0, 0), (8, 0), (0, 24)] r_p 9)
    rw [bx_val_x (n := 8) (e := (8, 0)) h0_ rfl, bx_val_x (n := 9) (e := (0, 24)) h0_ rfl]
    exact g.2.2.1
  · show rxmBSK_1 S0 ws S_p (bx_val [(0, 0), (0, 0), (0, 0), (0, 0), (0, 0), (0, 0), (0, 0), (0, 0), (8, 0), (0, 24)] r_p 8) (bx_val [(0, 0), (0, 0), (0, 0), (0, 0), (0, 0), (0, 0), (0, 0), (0, 0), (8, 0), (0, 24)] r_p 9) < rxmBSK_0 S0 ws S_p (r 8)
    rw [bx_val_x (n := 8) (e := (8, 0)) h0_ rfl, bx_val_x (n := 9) (e := (0, 24)) h0_ rfl, ← hr_ 8 (by decide)]
    exact g.2.2.2
theorem rxcBSK_0_3 {S0 : Nat → Int → Int} {ws : List Int} {S : Nat → Int → Int} {test x9 x10 : Int} (hP : rxPBSK S0 ws) (hin : bx_same rxL (bx_mdl rxCBSK.2.2.1) S0 S) (I0 : bx_Inv rxL S) (hinv : rxIBSK_0 S0 ws S test) (l8 : 0 ≤ test) (u8 : test ≤ 1) (l9 : 3 ≤ x9) (u9 : x9 ≤ 3) (l10 : 47 ≤ x10) (u10 : x10 ≤ 47) (f0 : x10 ≠ 42) (f1 : x10 ≠ 45) (f2 : x10 ≠ 43) (e1 : S 480 11 = x9) (e0 : S 480 12 = x10) : (True) ∧ (True) ∧ rxIBSK_1 S0 ws S test 23 ∧ rxmBSK_1 S0 ws S test 23 < rxmBSK_0 S0 ws S test := by
  obtain ⟨hI, hx⟩ := hinv
  obtain ⟨a_, b_, c_, d_⟩ := rxcBSW_0_3 hP hin I0 hI l8 u8 l9 u9 l10 u10 f0 f1 f2 e1 e0
  exact ⟨a_, b_, ⟨c_, (by
    intro hD
    have e := hI.1.1
    subst e
    have q := (of_decide_eq_true ((rzDq_sg hD (c := 47) (by decide) (by decide)).mp ⟨by omega, by omega⟩) : _ < _ ∧ _ = _).2
    exact Or.inr (Or.inr (Or.inr (Or.inr (Or.inl ⟨rfl, q⟩)))))⟩, d_⟩
theorem rxgBSK_0_3 {X : (Nat → Int → Int) → Prop} {S0 : Nat → Int → Int} {ws : List Int} (hP : rxPBSK S0 ws) : bx_obC rxL X S0 rxCBSK.2.2.1 (rxIBSK S0 ws) (rxmBSK S0 ws) 0 rxzBSK_0 rxoBSK_0_3 := by
  intro S S_p r r_p hinv hX hin hsm_ hseg
  obtain ⟨I0, I1, h0_, hr_, b_, f_, d_⟩ := bx_cl (evs := [(0, (0, 480), (0, 12), .inr (1, (10, 0))), (0, (0, 480), (0, 11), .inr (0, (9, 0)))]) (fvs := [(3, (10, 0), (0, 42), (0, 0)), (3, (10, 0), (0, 45), (0, 0)), (3, (10, 0), (0, 43), (0, 0))]) hseg (by decide +kernel) (by decide +kernel)
  have hinv : rxIBSK_0 S0 ws S (r 8) := hinv
  rw [← hr_ 8 (by decide)] at hinv
  obtain ⟨⟨l8, u8⟩, ⟨l9, u9⟩, ⟨l10, u10⟩, -⟩ := b_
  obtain ⟨f0, f1, f2, -⟩ := f_
  obtain ⟨e0, ⟨e1, w_⟩⟩ := d_
  subst w_
  have g := rxcBSK_0_3 hP hin I0 hinv l8 u8 l9 u9 l10 u10 f0 f1 f2 e1 e0
  refine ⟨bx_narP_ok (l := []) g.1, bx_nfP_ok h0_ (fvs := []) (by decide +kernel) g.2.1, ?_, ?_⟩
  · show rxIBSK_1 S0 ws S_p (bx_val [(0, 0), (0, 0), (0, 0), (0, 0), (0, 0), (0, 0), (0, 0), (0, 0), (8, 0), (0, 23)] r_p 8) (bx_val [(0, 0), (0, 0), (0, 0), (0, 0), (0, 0), (0, 0), (0, 0), (0, 0), (8, 0), (0, 23)] r_p 9)
    rw [bx_val_x (n := 8) (e := (8, 0)) h0_ rfl, bx_val_x (n := 9) (e := (0, 23)) h0_ rfl]
    exact g.2.2.1
  · show rxmBSK_1 S0 ws S_p (bx_val [(0, 0), (0, 0), (0, 0), (0, 0), (0, 0), (0, 0), (0, 0), (0, 0), (8, 0), (0, 23)] r_p 8) (bx_val [(0, 0), (0, 0), (0, 0), (0, 0), (0, 0), (0, 0), (0, 0), (0, 0), (8, 0), (0, 23)] r_p 9) < rxmBSK_0 S0 ws S_p (r 8)
    rw [bx_val_x (n := 8) (e := (8, 0)) h0_ rfl, bx_val_x (n := 9) (e := (0, 23)) h0_ rfl, ← hr_ 8 (by decide)]
    exact g.2.2.2
theorem rxcBSK_0_4 {S0 : Nat → Int → Int} {ws : List Int} {S : Nat → Int → Int} {test x9 x10 : Int} (hP : rxPBSK S0 ws) (hin : bx_same rxL (bx_mdl rxCBSK.2.2.1) S0 S) (I0 : bx_Inv rxL S) (hinv : rxIBSK_0 S0 ws S test) (l8 : 0 ≤ test) (u8 : test ≤ 1) (l9 : 3 ≤ x9) (u9 : x9 ≤ 3) (l10 : 42 ≤ x10) (u10 : x10 ≤ 42) (f0 : x10 ≠ 45) (f1 : x10 ≠ 43) (e1 : S 480 11 = x9) (e0 : S 480 12 = x10) : (True) ∧ (True) ∧ rxIBSK_1 S0 ws S test 22 ∧ rxmBSK_1 S0 ws S test 22 < rxmBSK_0 S0 ws S test := by
  obtain ⟨hI, hx⟩ := hinv
  obtain ⟨a_, b_, c_, d_⟩ := rxcBSW_0_4 hP hin I0 hI l8 u8 l9 u9 l10 u10 f0 f1 e1 e0
  exact ⟨a_, b_, ⟨c_, (by
    intro hD
    have e := hI.1.1
    subst e
    have q := (of_decide_eq_true ((rzDq_sg hD (c := 42) (by decide) (by decide)).mp ⟨by omega, by omega⟩) : _ < _ ∧ _ = _).2
    exact Or.inr (Or.inr (Or.inr (Or.inl ⟨rfl, q⟩))))⟩, d_⟩
theorem rxgBSK_0_4 {X : (Nat → Int → Int) → Prop} {S0 : Nat → Int → Int} {ws : List Int} (hP : rxPBSK S0 ws) : bx_obC rxL X S0 rxCBSK.2.2.1 (rxIBSK S0 ws) (rxmBSK S0 ws) 0 rxzBSK_0 rxoBSK_0_4 := by
  intro S S_p r r_p hinv hX hin hsm_ hseg
  obtain ⟨I0, I1, h0_, hr_, b_, f_, d_⟩ := bx_cl (evs := [(0, (0, 480), (0, 12), .inr (1, (10, 0))), (0, (0, 480), (0, 11), .inr (0, (9, 0)))]) (fvs := [(3, (10, 0), (0, 45), (0, 0)), (3, (10, 0), (0, 43), (0, 0))]) hseg (by decide +kernel) (by decide +kernel)
  have hinv : rxIBSK_0 S0 ws S (r 8) := hinv
  rw [← hr_ 8 (by decide)] at hinv
  obtain ⟨⟨l8, u8⟩, ⟨l9, u9⟩, ⟨l10, u10⟩, -⟩ := b_
  obtain ⟨f0, f1, -⟩ := f_
  obtain ⟨e0, ⟨e1, w_⟩⟩ := d_
  subst w_
  have g := rxcBSK_0_4 hP hin I0 hinv l8 u8 l9 u9 l10 u10 f0 f1 e1 e0
  refine ⟨bx_narP_ok (l := []) g.1, bx_nfP_ok h0_ (fvs := []) (by decide +kernel) g.2.1, ?_, ?_⟩
  · show rxIBSK_1 S0 ws S_p (bx_val [(0, 0), (0, 0), (0, 0), (0, 0), (0, 0), (0, 0), (0, 0), (0, 0), (8, 0), (0, 22)] r_p 8) (bx_val [(0, 0), (0, 0), (0, 0), (0, 0), (0, 0), (0, 0), (0, 0), (0, 0), (8, 0), (0, 22)] r_p 9)
    rw [bx_val_x (n := 8) (e := (8, 0)) h0_ rfl, bx_val_x (n := 9) (e := (0, 22)) h0_ rfl]
    exact g.2.2.1
  · show rxmBSK_1 S0 ws S_p (bx_val [(0, 0), (0, 0), (0, 0), (0, 0), (0, 0), (0, 0), (0, 0), (0, 0), (8, 0), (0, 22)] r_p 8) (bx_val [(0, 0), (0, 0), (0, 0), (0, 0), (0, 0), (0, 0), (0, 0), (0, 0), (8, 0), (0, 22)] r_p 9) < rxmBSK_0 S0 ws S_p (r 8)
    rw [bx_val_x (n := 8) (e := (8, 0)) h0_ rfl, bx_val_x (n := 9) (e := (0, 22)) h0_ rfl, ← hr_ 8 (by decide)]
    exact g.2.2.2
theorem rxcBSK_0_5 {S0 : Nat → Int → Int} {ws : List Int} {S : Nat → Int → Int} {test x9 x10 : Int} (hP : rxPBSK S0 ws) (hin : bx_same rxL (bx_mdl rxCBSK.2.2.1) S0 S) (I0 : bx_Inv rxL S) (hinv : rxIBSK_0 S0 ws S test) (l8 : 0 ≤ test) (u8 : test ≤ 1) (l9 : 3 ≤ x9) (u9 : x9 ≤ 3) (l10 : 45 ≤ x10) (u10 : x10 ≤ 45) (f0 : x10 ≠ 43) (e1 : S 480 11 = x9) (e0 : S 480 12 = x10) : (True) ∧ (True) ∧ rxIBSK_1 S0 ws S test 21 ∧ rxmBSK_1 S0 ws S test 21 < rxmBSK_0 S0 ws S test := by
  obtain ⟨hI, hx⟩ := hinv
  obtain ⟨a_, b_, c_, d_⟩ := rxcBSW_0_5 hP hin I0 hI l8 u8 l9 u9 l10 u10 f0 e1 e0
  exact ⟨a_, b_, ⟨c_, (by
    intro hD
    have e := hI.1.1
    subst e
    have q := (of_decide_eq_true ((rzDq_sg hD (c := 45) (by decide) (by decide)).mp ⟨by omega, by omega⟩) : _ < _ ∧ _ = _).2
    exact Or.inr (Or.inr (Or.inl ⟨rfl, q⟩)))⟩, d_⟩
theorem rxgBSK_0_5 {X : (Nat → Int → Int) → Prop} {S0 : Nat → Int → Int} {ws : List Int} (hP : rxPBSK S0 ws) : bx_obC rxL X S0 rxCBSK.2.2.1 (rxIBSK S0 ws) (rxmBSK S0 ws) 0 rxzBSK_0 rxoBSK_0_5 := by
  intro S S_p r r_p hinv hX hin hsm_ hseg
  obtain ⟨I0, I1, h0_, hr_, b_, f_, d_⟩ := bx_cl (evs := [(0, (0, 480), (0, 12), .inr (1, (10, 0))), (0, (0, 480), (0, 11), .inr (0, (9, 0)))]) (fvs := [(3, (10, 0), (0, 43), (0, 0))]) hseg (by decide +kernel) (by decide +kernel)
  have hinv : rxIBSK_0 S0 ws S (r 8) := hinv
  rw [← hr_ 8 (by decide)] at hinv
  obtain ⟨⟨l8, u8⟩, ⟨l9, u9⟩, ⟨l10, u10⟩, -⟩ := b_
  obtain ⟨f0, -⟩ := f_
  obtain ⟨e0, ⟨e1, w_⟩⟩ := d_
  subst w_
  have g := rxcBSK_0_5 hP hin I0 hinv l8 u8 l9 u9 l10 u10 f0 e1 e0
  refine ⟨bx_narP_ok (l := []) g.1, bx_nfP_ok h0_ (fvs := []) (by decide +kernel) g.2.1, ?_, ?_⟩
  · show rxIBSK_1 S0 ws S_p (bx_val [(0, 0), (0, 0), (0, 0), (0, 0), (0, 0), (0, 0), (0, 0), (0, 0), (8, 0), (0, 21)] r_p 8) (bx_val [(0, 0), (0, 0), (0, 0), (0, 0), (0, 0), (0, 0), (0, 0), (0, 0), (8, 0), (0, 21)] r_p 9)
    rw [bx_val_x (n := 8) (e := (8, 0)) h0_ rfl, bx_val_x (n := 9) (e := (0, 21)) h0_ rfl]
    exact g.2.2.1
  · show rxmBSK_1 S0 ws S_p (bx_val [(0, 0), (0, 0), (0, 0), (0, 0), (0, 0), (0, 0), (0, 0), (0, 0), (8, 0), (0, 21)] r_p 8) (bx_val [(0, 0), (0, 0), (0, 0), (0, 0), (0, 0), (0, 0), (0, 0), (0, 0), (8, 0), (0, 21)] r_p 9) < rxmBSK_0 S0 ws S_p (r 8)
    rw [bx_val_x (n := 8) (e := (8, 0)) h0_ rfl, bx_val_x (n := 9) (e := (0, 21)) h0_ rfl, ← hr_ 8 (by decide)]
    exact g.2.2.2
theorem rxcBSK_0_6 {S0 : Nat → Int → Int} {ws : List Int} {S : Nat → Int → Int} {test x9 x10 : Int} (hP : rxPBSK S0 ws) (hin : bx_same rxL (bx_mdl rxCBSK.2.2.1) S0 S) (I0 : bx_Inv rxL S) (hinv : rxIBSK_0 S0 ws S test) (l8 : 0 ≤ test) (u8 : test ≤ 1) (l9 : 3 ≤ x9) (u9 : x9 ≤ 3) (l10 : 43 ≤ x10) (u10 : x10 ≤ 43) (e1 : S 480 11 = x9) (e0 : S 480 12 = x10) : (True) ∧ (True) ∧ rxIBSK_1 S0 ws S test 20 ∧ rxmBSK_1 S0 ws S test 20 < rxmBSK_0 S0 ws S test := by
  obtain ⟨hI, hx⟩ := hinv
  obtain ⟨a_, b_, c_, d_⟩ := rxcBSW_0_6 hP hin I0 hI l8 u8 l9 u9 l10 u10 e1 e0
  exact ⟨a_, b_, ⟨c_, (by
    intro hD
    have e := hI.1.1
    subst e
    have q := (of_decide_eq_true ((rzDq_sg hD (c := 43) (by decide) (by decide)).mp ⟨by omega, by omega⟩) : _ < _ ∧ _ = _).2
    exact Or.inr (Or.inl ⟨rfl, q⟩))⟩, d_⟩
theorem rxgBSK_0_6 {X : (Nat → Int → Int) → Prop} {S0 : Nat → Int → Int} {ws : List Int} (hP : rxPBSK S0 ws) : bx_obC rxL X S0 rxCBSK.2.2.1 (rxIBSK S0 ws) (rxmBSK S0 ws) 0 rxzBSK_0 rxoBSK_0_6 := by
  intro S S_p r r_p hinv hX hin hsm_ hseg
  obtain ⟨I0, I1, h0_, hr_, b_, f_, d_⟩ := bx_cl (evs := [(0, (0, 480), (0, 12), .inr (1, (10, 0))), (0, (0, 480), (0, 11), .inr (0, (9, 0)))]) (fvs := []) hseg (by decide +kernel) (by decide +kernel)
  have hinv : rxIBSK_0 S0 ws S (r 8) := hinv
  rw [← hr_ 8 (by decide)] at hinv
  obtain ⟨⟨l8, u8⟩, ⟨l9, u9⟩, ⟨l10, u10⟩, -⟩ := b_
  obtain ⟨e0, ⟨e1, w_⟩⟩ := d_
  subst w_
  have g := rxcBSK_0_6 hP hin I0 hinv l8 u8 l9 u9 l10 u10 e1 e0
  refine ⟨bx_narP_ok (l := []) g.1, bx_nfP_ok h0_ (fvs := []) (by decide +kernel) g.2.1, ?_, ?_⟩
  · show rxIBSK_1 S0 ws S_p (bx_val [(0, 0), (0, 0), (0, 0), (0, 0), (0, 0), (0, 0), (0, 0), (0, 0), (8, 0), (0, 20)] r_p 8) (bx_val [(0, 0), (0, 0), (0, 0), (0, 0), (0, 0), (0, 0), (0, 0), (0, 0), (8, 0), (0, 20)] r_p 9)
    rw [bx_val_x (n := 8) (e := (8, 0)) h0_ rfl, bx_val_x (n := 9) (e := (0, 20)) h0_ rfl]
    exact g.2.2.1
  · show rxmBSK_1 S0 ws S_p (bx_val [(0, 0), (0, 0), (0, 0), (0, 0), (0, 0), (0, 0), (0, 0), (0, 0), (8, 0), (0, 20)] r_p 8) (bx_val [(0, 0), (0, 0), (0, 0), (0, 0), (0, 0), (0, 0), (0, 0), (0, 0), (8, 0), (0, 20)] r_p 9) < rxmBSK_0 S0 ws S_p (r 8)
    rw [bx_val_x (n := 8) (e := (8, 0)) h0_ rfl, bx_val_x (n := 9) (e := (0, 20)) h0_ rfl, ← hr_ 8 (by decide)]
    exact g.2.2.2
theorem rxcBSK_1_0 {S0 : Nat → Int → Int} {ws : List Int} {S : Nat → Int → Int} {test op : Int} (hP : rxPBSK S0 ws) (hin : bx_same rxL (bx_mdl rxCBSK.2.2.1) S0 S) (I0 : bx_Inv rxL S) (hinv : rxIBSK_1 S0 ws S test op) (l8 : 0 ≤ test) (u8 : test ≤ 1) (l9 : 0 ≤ op) (u9 : op ≤ 24) (f0 : op ≠ (-1)) : ((20 ≤ op ∧ op ≤ 24) ∧ (20 ≤ op ∧ op ≤ 24) ∧ True) ∧ (True) ∧ rxIBSK_2 S0 ws S test op op ∧ rxmBSK_2 S0 ws S test op op < rxmBSK_1 S0 ws S test op := by
  obtain ⟨hI, hx⟩ := hinv
  obtain ⟨a_, b_, c_, d_⟩ := rxcBSW_1_0 hP hin I0 hI l8 u8 l9 u9 f0
  exact ⟨a_, b_, ⟨c_, (by
    refine ⟨?_, hx⟩
    first | rfl | omega)⟩, d_⟩
theorem rxgBSK_1_0 {X : (Nat → Int → Int) → Prop} {S0 : Nat → Int → Int} {ws : List Int} (hP : rxPBSK S0 ws) : bx_obC rxL X S0 rxCBSK.2.2.1 (rxIBSK S0 ws) (rxmBSK S0 ws) 1 rxzBSK_1 rxoBSK_1_0 := by
  intro S S_p r r_p hinv hX hin hsm_ hseg
  obtain ⟨I0, I1, h0_, hr_, b_, f_, d_⟩ := bx_cl (evs := []) (fvs := [(3, (9, 0), (0, (-1)), (0, 0))]) hseg (by decide +kernel) (by decide +kernel)
  have hinv : rxIBSK_1 S0 ws S (r 8) (r 9) := hinv
  rw [← hr_ 8 (by decide), ← hr_ 9 (by decide)] at hinv
  obtain ⟨⟨l8, u8⟩, ⟨l9, u9⟩, -⟩ := b_
  obtain ⟨f0, -⟩ := f_
  have w_ := d_
  subst w_
  have g := rxcBSK_1_0 hP hin I0 hinv l8 u8 l9 u9 f0
  refine ⟨bx_narP_ok (l := [(9, 20, 24), (9, 20, 24)]) g.1, bx_nfP_ok h0_ (fvs := []) (by decide +kernel) g.2.1, ?_, ?_⟩
  · show rxIBSK_2 S0 ws S_p (bx_val [(0, 0), (0, 0), (0, 0), (0, 0), (0, 0), (0, 0), (0, 0), (0, 0), (8, 0), (9, 0), (9, 0)] r_p 8) (bx_val [(0, 0), (0, 0), (0, 0), (0, 0), (0, 0), (0, 0), (0, 0), (0, 0), (8, 0), (9, 0), (9, 0)] r_p 9) (bx_val [(0, 0), (0, 0), (0, 0), (0, 0), (0, 0), (0, 0), (0, 0), (0, 0), (8, 0), (9, 0), (9, 0)] r_p 10)
    rw [bx_val_x (n := 8) (e := (8, 0)) h0_ rfl, bx_val_x (n := 9) (e := (9, 0)) h0_ rfl, bx_val_x (n := 10) (e := (9, 0)) h0_ rfl]
    exact g.2.2.1
  · show rxmBSK_2 S0 ws S_p (bx_val [(0, 0), (0, 0), (0, 0), (0, 0), (0, 0), (0, 0), (0, 0), (0, 0), (8, 0), (9, 0), (9, 0)] r_p 8) (bx_val [(0, 0), (0, 0), (0, 0), (0, 0), (0, 0), (0, 0), (0, 0), (0, 0), (8, 0), (9, 0), (9, 0)] r_p 9) (bx_val [(0, 0), (0, 0), (0, 0), (0, 0), (0, 0), (0, 0), (0, 0), (0, 0), (8, 0), (9, 0), (9, 0)] r_p 10) < rxmBSK_1 S0 ws S_p (r 8) (r 9)
    rw [bx_val_x (n := 8) (e := (8, 0)) h0_ rfl, bx_val_x (n := 9) (e := (9, 0)) h0_ rfl, bx_val_x (n := 10) (e := (9, 0)) h0_ rfl, ← hr_ 8 (by decide), ← hr_ 9 (by decide)]
    exact g.2.2.2
theorem rxcBSK_1_1 {S0 : Nat → Int → Int} {ws : List Int} {S : Nat → Int → Int} {test op : Int} (hP : rxPBSK S0 ws) (hin : bx_same rxL (bx_mdl rxCBSK.2.2.1) S0 S) (I0 : bx_Inv rxL S) (hinv : rxIBSK_1 S0 ws S test op) (l8 : 0 ≤ test) (u8 : test ≤ 1) (l9 : (-1) ≤ op) (u9 : op ≤ (-1)) : (True) ∧ (True) ∧ rxIBSK_9 S0 ws S test ∧ rxmBSK_9 S0 ws S test < rxmBSK_1 S0 ws S test op := by
  obtain ⟨hI, hx⟩ := hinv
  obtain ⟨a_, b_, c_, d_⟩ := rxcBSW_1_1 hP hin I0 hI l8 u8 l9 u9
  exact ⟨a_, b_, ⟨c_, trivial⟩, d_⟩
theorem rxgBSK_1_1 {X : (Nat → Int → Int) → Prop} {S0 : Nat → Int → Int} {ws : List Int} (hP : rxPBSK S0 ws) : bx_obC rxL X S0 rxCBSK.2.2.1 (rxIBSK S0 ws) (rxmBSK S0 ws) 1 rxzBSK_1 rxoBSK_1_1 := by
  intro S S_p r r_p hinv hX hin hsm_ hseg
  obtain ⟨I0, I1, h0_, hr_, b_, f_, d_⟩ := bx_cl (evs := []) (fvs := []) hseg (by decide +kernel) (by decide +kernel)
  have hinv : rxIBSK_1 S0 ws S (r 8) (r 9) := hinv
  rw [← hr_ 8 (by decide), ← hr_ 9 (by decide)] at hinv
  obtain ⟨⟨l8, u8⟩, ⟨l9, u9⟩, -⟩ := b_
  have w_ := d_
  subst w_
  have g := rxcBSK_1_1 hP hin I0 hinv l8 u8 l9 u9
  refine ⟨bx_narP_ok (l := []) g.1, bx_nfP_ok h0_ (fvs := []) (by decide +kernel) g.2.1, ?_, ?_⟩
  · show rxIBSK_9 S0 ws S_p (bx_val [(0, 0), (0, 0), (0, 0), (0, 0), (0, 0), (0, 0), (0, 0), (0, 0), (8, 0)] r_p 8)
    rw [bx_val_x (n := 8) (e := (8, 0)) h0_ rfl]
    exact g.2.2.1
  · show rxmBSK_9 S0 ws S_p (bx_val [(0, 0), (0, 0), (0, 0), (0, 0), (0, 0), (0, 0), (0, 0), (0, 0), (8, 0)] r_p 8) < rxmBSK_1 S0 ws S_p (r 8) (r 9)
    rw [bx_val_x (n := 8) (e := (8, 0)) h0_ rfl, ← hr_ 8 (by decide), ← hr_ 9 (by decide)]
    exact g.2.2.2
theorem rxcBSK_4_0 {S0 : Nat → Int → Int} {ws : List Int} {S : Nat → Int → Int} {test op op2 bd : Int} (hP : rxPBSK S0 ws) (hin : bx_same rxL (bx_mdl rxCBSK.2.2.1) S0 S) (I0 : bx_Inv rxL S) (hinv : rxIBSK_4 S0 ws S test op op2 bd) (l8 : 0 ≤ test) (u8 : test ≤ 1) (l9 : 20 ≤ op) (u9 : op ≤ 24) (l10 : 20 ≤ op2) (u10 : op2 ≤ 24) (l11 : 5 ≤ bd) (u11 : bd ≤ 6) : (True) ∧ (True) ∧ rxIBSK_5 S0 ws S test op op ∧ rxmBSK_5 S0 ws S test op op < rxmBSK_4 S0 ws S test op op2 bd := by
  obtain ⟨hI, hx⟩ := hinv
  obtain ⟨a_, b_, c_, d_⟩ := rxcBSW_4_0 hP hin I0 hI l8 u8 l9 u9 l10 u10 l11 u11
  exact ⟨a_, b_, ⟨c_, (by
    refine ⟨?_, hx.2⟩
    first | rfl | exact hx.1)⟩, d_⟩
theorem rxgBSK_4_0 {X : (Nat → Int → Int) → Prop} {S0 : Nat → Int → Int} {ws : List Int} (hP : rxPBSK S0 ws) : bx_obC rxL X S0 rxCBSK.2.2.1 (rxIBSK S0 ws) (rxmBSK S0 ws) 4 rxzBSK_4 rxoBSK_4_0 := by
  intro S S_p r r_p hinv hX hin hsm_ hseg
  obtain ⟨I0, I1, h0_, hr_, b_, f_, d_⟩ := bx_cl (evs := []) (fvs := []) hseg (by decide +kernel) (by decide +kernel)
  have hinv : rxIBSK_4 S0 ws S (r 8) (r 9) (r 10) (r 11) := hinv
  rw [← hr_ 8 (by decide), ← hr_ 9 (by decide), ← hr_ 10 (by decide), ← hr_ 11 (by decide)] at hinv
  obtain ⟨⟨l8, u8⟩, ⟨l9, u9⟩, ⟨l10, u10⟩, ⟨l11, u11⟩, -⟩ := b_
  have w_ := d_
  subst w_
  have g := rxcBSK_4_0 hP hin I0 hinv l8 u8 l9 u9 l10 u10 l11 u11
  refine ⟨bx_narP_ok (l := []) g.1, bx_nfP_ok h0_ (fvs := []) (by decide +kernel) g.2.1, ?_, ?_⟩
  · show rxIBSK_5 S0 ws S_p (bx_val [(0, 0), (0, 0), (0, 0), (0, 0), (0, 0), (0, 0), (0, 0), (0, 0), (8, 0), (9, 0), (9, 0)] r_p 8) (bx_val [(0, 0), (0, 0), (0, 0), (0, 0), (0, 0), (0, 0), (0, 0), (0, 0), (8, 0), (9, 0), (9, 0)] r_p 9) (bx_val [(0, 0), (0, 0), (0, 0), (0, 0), (0, 0), (0, 0), (0, 0), (0, 0), (8, 0), (9, 0), (9, 0)] r_p 10)
    rw [bx_val_x (n := 8) (e := (8, 0)) h0_ rfl, bx_val_x (n := 9) (e := (9, 0)) h0_ rfl, bx_val_x (n := 10) (e := (9, 0)) h0_ rfl]
    exact g.2.2.1
  · show rxmBSK_5 S0 ws S_p (bx_val [(0, 0), (0, 0), (0, 0), (0, 0), (0, 0), (0, 0), (0, 0), (0, 0), (8, 0), (9, 0), (9, 0)] r_p 8) (bx_val [(0, 0), (0, 0), (0, 0), (0, 0), (0, 0), (0, 0), (0, 0), (0, 0), (8, 0), (9, 0), (9, 0)] r_p 9) (bx_val [(0, 0), (0, 0), (0, 0), (0, 0), (0, 0), (0, 0), (0, 0), (0, 0), (8, 0), (9, 0), (9, 0)] r_p 10) < rxmBSK_4 S0 ws S_p (r 8) (r 9) (r 10) (r 11)
    rw [bx_val_x (n := 8) (e := (8, 0)) h0_ rfl, bx_val_x (n := 9) (e := (9, 0)) h0_ rfl, bx_val_x (n := 10) (e := (9, 0)) h0_ rfl, ← hr_ 8 (by decide), ← hr_ 9 (by decide), ← hr_ 10 (by decide), ← hr_ 11 (by decide)]
    exact g.2.2.2
theorem rxcBSK_6_0 {S0 : Nat → Int → Int} {ws : List Int} {S : Nat → Int → Int} {test op op2 : Int} (hP : rxPBSK S0 ws) (hin : bx_same rxL (bx_mdl rxCBSK.2.2.1) S0 S) (I0 : bx_Inv rxL S) (hinv : rxIBSK_6 S0 ws S test op op2) (l8 : 0 ≤ test) (u8 : test ≤ 1) (l9 : 20 ≤ op) (u9 : op ≤ 24) (l10 : 20 ≤ op2) (u10 : op2 ≤ 24) : (True) ∧ (True) ∧ rxIBSK_7 S0 ws S test op ∧ rxmBSK_7 S0 ws S test op < rxmBSK_6 S0 ws S test op op2 := by
  obtain ⟨hI, hx⟩ := hinv
  obtain ⟨a_, b_, c_, d_⟩ := rxcBSW_6_0 hP hin I0 hI l8 u8 l9 u9 l10 u10
  exact ⟨a_, b_, ⟨c_, hx⟩, d_⟩
theorem rxgBSK_6_0 {X : (Nat → Int → Int) → Prop} {S0 : Nat → Int → Int} {ws : List Int} (hP : rxPBSK S0 ws) : bx_obC rxL X S0 rxCBSK.2.2.1 (rxIBSK S0 ws) (rxmBSK S0 ws) 6 rxzBSK_6 rxoBSK_6_0 := by
  intro S S_p r r_p hinv hX hin hsm_ hseg
  obtain ⟨I0, I1, h0_, hr_, b_, f_, d_⟩ := bx_cl (evs := []) (fvs := []) hseg (by decide +kernel) (by decide +kernel)
  have hinv : rxIBSK_6 S0 ws S (r 8) (r 9) (r 10) := hinv
  rw [← hr_ 8 (by decide), ← hr_ 9 (by decide), ← hr_ 10 (by decide)] at hinv
  obtain ⟨⟨l8, u8⟩, ⟨l9, u9⟩, ⟨l10, u10⟩, -⟩ := b_
  have w_ := d_
  subst w_
  have g := rxcBSK_6_0 hP hin I0 hinv l8 u8 l9 u9 l10 u10
  refine ⟨bx_narP_ok (l := []) g.1, bx_nfP_ok h0_ (fvs := []) (by decide +kernel) g.2.1, ?_, ?_⟩
  · show rxIBSK_7 S0 ws S_p (bx_val [(0, 0), (0, 0), (0, 0), (0, 0), (0, 0), (0, 0), (0, 0), (0, 0), (8, 0), (9, 0)] r_p 8) (bx_val [(0, 0), (0, 0), (0, 0), (0, 0), (0, 0), (0, 0), (0, 0), (0, 0), (8, 0), (9, 0)] r_p 9)
    rw [bx_val_x (n := 8) (e := (8, 0)) h0_ rfl, bx_val_x (n := 9) (e := (9, 0)) h0_ rfl]
    exact g.2.2.1
  · show rxmBSK_7 S0 ws S_p (bx_val [(0, 0), (0, 0), (0, 0), (0, 0), (0, 0), (0, 0), (0, 0), (0, 0), (8, 0), (9, 0)] r_p 8) (bx_val [(0, 0), (0, 0), (0, 0), (0, 0), (0, 0), (0, 0), (0, 0), (0, 0), (8, 0), (9, 0)] r_p 9) < rxmBSK_6 S0 ws S_p (r 8) (r 9) (r 10)
    rw [bx_val_x (n := 8) (e := (8, 0)) h0_ rfl, bx_val_x (n := 9) (e := (9, 0)) h0_ rfl, ← hr_ 8 (by decide), ← hr_ 9 (by decide), ← hr_ 10 (by decide)]
    exact g.2.2.2
theorem rxdBSK_8_0 {S0 : Nat → Int → Int} {ws : List Int} {S : Nat → Int → Int} {test op : Int} (hP : rxPBSK S0 ws) (hin : bx_same rxL (bx_mdl rxCBSK.2.2.1) S0 S) (hin2 : bx_same rxL (bx_mdl rxCBSK.2.2.1) S S) (I0 : bx_Inv rxL S) (I1 : bx_Inv rxL S) (hinv : rxIBSK_8 S0 ws S test op) (l8 : 0 ≤ test) (u8 : test ≤ 1) (l9 : 20 ≤ op) (u9 : op ≤ 24) : (True) ∧ rxPSBSK S0 ws S (some 1) := by
  obtain ⟨hI, hx⟩ := hinv
  obtain ⟨a_, c_⟩ := rxdBSW_8_0 hP hin hin2 I0 I1 hI l8 u8 l9 u9
  exact ⟨a_, c_, hx⟩
theorem rxfBSK_8_0 {X : (Nat → Int → Int) → Prop} {S0 : Nat → Int → Int} {ws : List Int} (hP : rxPBSK S0 ws) : bx_obE rxL X S0 rxCBSK.2.2.1 (rxIBSK S0 ws) (rxPSBSK S0 ws) 8 rxzBSK_8 rxeBSK_8_0 := by
  intro S S_p r r_p hinv hX hin hsm_ hseg
  obtain ⟨I0, I1, h0_, hr_, b_, f_, d_⟩ := bx_cl (evs := []) (fvs := []) hseg (by decide +kernel) (by decide +kernel)
  have hinv : rxIBSK_8 S0 ws S (r 8) (r 9) := hinv
  rw [← hr_ 8 (by decide), ← hr_ 9 (by decide)] at hinv
  obtain ⟨⟨l8, u8⟩, ⟨l9, u9⟩, -⟩ := b_
  have w_ := d_
  subst w_
  have g := rxdBSK_8_0 hP hin hsm_ I0 I1 hinv l8 u8 l9 u9
  refine ⟨bx_narP_ok (l := []) g.1, ?_⟩
  show rxPSBSK S0 ws S_p (some (bx_num r_p (.inr (0, (0, 1)))))
  rw [bx_xv_ok h0_]
  exact g.2
theorem rxcBSK_10_0 {S0 : Nat → Int → Int} {ws : List Int} {S : Nat → Int → Int} {test its : Int} (hP : rxPBSK S0 ws) (hin : bx_same rxL (bx_mdl rxCBSK.2.2.1) S0 S) (I0 : bx_Inv rxL S) (hinv : rxIBSK_10 S0 ws S test its) (l8 : 0 ≤ test) (u8 : test ≤ 1) (l9 : 32 ≤ its) (u9 : its ≤ 32) : (True) ∧ (True) ∧ rxIBSK_11 S0 ws S test ∧ rxmBSK_11 S0 ws S test < rxmBSK_10 S0 ws S test its := by
  obtain ⟨hI, hx⟩ := hinv
  obtain ⟨a_, b_, c_, d_⟩ := rxcBSW_10_0 hP hin I0 hI l8 u8 l9 u9
  exact ⟨a_, b_, ⟨c_, trivial⟩, d_⟩
theorem rxgBSK_10_0 {X : (Nat → Int → Int) → Prop} {S0 : Nat → Int → Int} {ws : List Int} (hP : rxPBSK S0 ws) : bx_obC rxL X S0 rxCBSK.2.2.1 (rxIBSK S0 ws) (rxmBSK S0 ws) 10 rxzBSK_10 rxoBSK_10_0 := by
  intro S S_p r r_p hinv hX hin hsm_ hseg
  obtain ⟨I0, I1, h0_, hr_, b_, f_, d_⟩ := bx_cl (evs := []) (fvs := []) hseg (by decide +kernel) (by decide +kernel)
  have hinv : rxIBSK_10 S0 ws S (r 8) (r 9) := hinv
  rw [← hr_ 8 (by decide), ← hr_ 9 (by decide)] at hinv
  obtain ⟨⟨l8, u8⟩, ⟨l9, u9⟩, -⟩ := b_
  have w_ := d_
  subst w_
  have g := rxcBSK_10_0 hP hin I0 hinv l8 u8 l9 u9
  refine ⟨bx_narP_ok (l := []) g.1, bx_nfP_ok h0_ (fvs := []) (by decide +kernel) g.2.1, ?_, ?_⟩
  · show rxIBSK_11 S0 ws S_p (bx_val [(0, 0), (0, 0), (0, 0), (0, 0), (0, 0), (0, 0), (0, 0), (0, 0), (8, 0)] r_p 8)
    rw [bx_val_x (n := 8) (e := (8, 0)) h0_ rfl]
    exact g.2.2.1
  · show rxmBSK_11 S0 ws S_p (bx_val [(0, 0), (0, 0), (0, 0), (0, 0), (0, 0), (0, 0), (0, 0), (0, 0), (8, 0)] r_p 8) < rxmBSK_10 S0 ws S_p (r 8) (r 9)
    rw [bx_val_x (n := 8) (e := (8, 0)) h0_ rfl, ← hr_ 8 (by decide), ← hr_ 9 (by decide)]
    exact g.2.2.2
theorem rxcBSK_10_1 {S0 : Nat → Int → Int} {ws : List Int} {S : Nat → Int → Int} {test its : Int} (hP : rxPBSK S0 ws) (hin : bx_same rxL (bx_mdl rxCBSK.2.2.1) S0 S) (I0 : bx_Inv rxL S) (hinv : rxIBSK_10 S0 ws S test its) (l8 : 1 ≤ test) (u8 : test ≤ 1) (l9 : (-1) ≤ its) (u9 : its ≤ (-1)) (f0 : test ≠ 0) (f1 : its ≠ 32) : (True) ∧ (True) ∧ rxIBSK_18 S0 ws S test ∧ rxmBSK_18 S0 ws S test < rxmBSK_10 S0 ws S test its := by
  obtain ⟨hI, hx⟩ := hinv
  obtain ⟨a_, b_, c_, d_⟩ := rxcBSW_10_1 hP hin I0 hI l8 u8 l9 u9 f0 f1
  exact ⟨a_, b_, ⟨c_, trivial⟩, d_⟩
theorem rxgBSK_10_1 {X : (Nat → Int → Int) → Prop} {S0 : Nat → Int → Int} {ws : List Int} (hP : rxPBSK S0 ws) : bx_obC rxL X S0 rxCBSK.2.2.1 (rxIBSK S0 ws) (rxmBSK S0 ws) 10 rxzBSK_10 rxoBSK_10_1 := by
  intro S S_p r r_p hinv hX hin hsm_ hseg
  obtain ⟨I0, I1, h0_, hr_, b_, f_, d_⟩ := bx_cl (evs := []) (fvs := [(3, (8, 0), (0, 0), (0, 0)), (3, (9, 0), (0, 32), (0, 0))]) hseg (by decide +kernel) (by decide +kernel)
  have hinv : rxIBSK_10 S0 ws S (r 8) (r 9) := hinv
  rw [← hr_ 8 (by decide), ← hr_ 9 (by decide)] at hinv
  obtain ⟨⟨l8, u8⟩, ⟨l9, u9⟩, -⟩ := b_
  obtain ⟨f0, f1, -⟩ := f_
  have w_ := d_
  subst w_
  have g := rxcBSK_10_1 hP hin I0 hinv l8 u8 l9 u9 f0 f1
  refine ⟨bx_narP_ok (l := []) g.1, bx_nfP_ok h0_ (fvs := []) (by decide +kernel) g.2.1, ?_, ?_⟩
  · show rxIBSK_18 S0 ws S_p (bx_val [(0, 0), (0, 0), (0, 0), (0, 0), (0, 0), (0, 0), (0, 0), (0, 0), (8, 0)] r_p 8)
    rw [bx_val_x (n := 8) (e := (8, 0)) h0_ rfl]
    exact g.2.2.1
  · show rxmBSK_18 S0 ws S_p (bx_val [(0, 0), (0, 0), (0, 0), (0, 0), (0, 0), (0, 0), (0, 0), (0, 0), (8, 0)] r_p 8) < rxmBSK_10 S0 ws S_p (r 8) (r 9)
    rw [bx_val_x (n := 8) (e := (8, 0)) h0_ rfl, ← hr_ 8 (by decide), ← hr_ 9 (by decide)]
    exact g.2.2.2
theorem rxcBSK_10_2 {S0 : Nat → Int → Int} {ws : List Int} {S : Nat → Int → Int} {test its : Int} (hP : rxPBSK S0 ws) (hin : bx_same rxL (bx_mdl rxCBSK.2.2.1) S0 S) (I0 : bx_Inv rxL S) (hinv : rxIBSK_10 S0 ws S test its) (l8 : 0 ≤ test) (u8 : test ≤ 1) (l9 : 0 ≤ its) (u9 : its ≤ 31) (f0 : its ≠ (-1)) (f1 : its ≠ 32) : (True) ∧ (True) ∧ rxIBSK_18 S0 ws S test ∧ rxmBSK_18 S0 ws S test < rxmBSK_10 S0 ws S test its := by
  obtain ⟨hI, hx⟩ := hinv
  obtain ⟨a_, b_, c_, d_⟩ := rxcBSW_10_2 hP hin I0 hI l8 u8 l9 u9 f0 f1
  exact ⟨a_, b_, ⟨c_, trivial⟩, d_⟩
theorem rxgBSK_10_2 {X : (Nat → Int → Int) → Prop} {S0 : Nat → Int → Int} {ws : List Int} (hP : rxPBSK S0 ws) : bx_obC rxL X S0 rxCBSK.2.2.1 (rxIBSK S0 ws) (rxmBSK S0 ws) 10 rxzBSK_10 rxoBSK_10_2 := by
  intro S S_p r r_p hinv hX hin hsm_ hseg
  obtain ⟨I0, I1, h0_, hr_, b_, f_, d_⟩ := bx_cl (evs := []) (fvs := [(3, (9, 0), (0, (-1)), (0, 0)), (3, (9, 0), (0, 32), (0, 0))]) hseg (by decide +kernel) (by decide +kernel)
  have hinv : rxIBSK_10 S0 ws S (r 8) (r 9) := hinv
  rw [← hr_ 8 (by decide), ← hr_ 9 (by decide)] at hinv
  obtain ⟨⟨l8, u8⟩, ⟨l9, u9⟩, -⟩ := b_
  obtain ⟨f0, f1, -⟩ := f_
  have w_ := d_
  subst w_
  have g := rxcBSK_10_2 hP hin I0 hinv l8 u8 l9 u9 f0 f1
  refine ⟨bx_narP_ok (l := []) g.1, bx_nfP_ok h0_ (fvs := []) (by decide +kernel) g.2.1, ?_, ?_⟩
  · show rxIBSK_18 S0 ws S_p (bx_val [(0, 0), (0, 0), (0, 0), (0, 0), (0, 0), (0, 0), (0, 0), (0, 0), (8, 0)] r_p 8)
    rw [bx_val_x (n := 8) (e := (8, 0)) h0_ rfl]
    exact g.2.2.1
  · show rxmBSK_18 S0 ws S_p (bx_val [(0, 0), (0, 0), (0, 0), (0, 0), (0, 0), (0, 0), (0, 0), (0, 0), (8, 0)] r_p 8) < rxmBSK_10 S0 ws S_p (r 8) (r 9)
    rw [bx_val_x (n := 8) (e := (8, 0)) h0_ rfl, ← hr_ 8 (by decide), ← hr_ 9 (by decide)]
    exact g.2.2.2
theorem rxdBSK_10_0 {S0 : Nat → Int → Int} {ws : List Int} {S : Nat → Int → Int} {test its : Int} (hP : rxPBSK S0 ws) (hin : bx_same rxL (bx_mdl rxCBSK.2.2.1) S0 S) (hin2 : bx_same rxL (bx_mdl rxCBSK.2.2.1) S S) (I0 : bx_Inv rxL S) (I1 : bx_Inv rxL S) (hinv : rxIBSK_10 S0 ws S test its) (l8 : 0 ≤ test) (u8 : test ≤ 0) (l9 : (-1) ≤ its) (u9 : its ≤ (-1)) (f0 : its ≠ 32) : (True) ∧ rxPSBSK S0 ws S (some 4) := by
  obtain ⟨hI, hx⟩ := hinv
  obtain ⟨a_, c_⟩ := rxdBSW_10_0 hP hin hin2 I0 I1 hI l8 u8 l9 u9 f0
  exact ⟨a_, c_, (by
    intro c hD tst s rest hw r hc z14 zne
    have e := hI.1.1
    subst e
    exact absurd rfl zne)⟩
theorem rxfBSK_10_0 {X : (Nat → Int → Int) → Prop} {S0 : Nat → Int → Int} {ws : List Int} (hP : rxPBSK S0 ws) : bx_obE rxL X S0 rxCBSK.2.2.1 (rxIBSK S0 ws) (rxPSBSK S0 ws) 10 rxzBSK_10 rxeBSK_10_0 := by
  intro S S_p r r_p hinv hX hin hsm_ hseg
  obtain ⟨I0, I1, h0_, hr_, b_, f_, d_⟩ := bx_cl (evs := []) (fvs := [(3, (9, 0), (0, 32), (0, 0))]) hseg (by decide +kernel) (by decide +kernel)
  have hinv : rxIBSK_10 S0 ws S (r 8) (r 9) := hinv
  rw [← hr_ 8 (by decide), ← hr_ 9 (by decide)] at hinv
  obtain ⟨⟨l8, u8⟩, ⟨l9, u9⟩, -⟩ := b_
  obtain ⟨f0, -⟩ := f_
  have w_ := d_
  subst w_
  have g := rxdBSK_10_0 hP hin hsm_ I0 I1 hinv l8 u8 l9 u9 f0
  refine ⟨bx_narP_ok (l := []) g.1, ?_⟩
  show rxPSBSK S0 ws S_p (some (bx_num r_p (.inr (0, (0, 4)))))
  rw [bx_xv_ok h0_]
  exact g.2
theorem rxcBSK_13_0 {S0 : Nat → Int → Int} {ws : List Int} {S : Nat → Int → Int} {test is x10 : Int} (hP : rxPBSK S0 ws) (hin : bx_same rxL (bx_mdl rxCBSK.2.2.1) S0 S) (I0 : bx_Inv rxL S) (hinv : rxIBSK_13 S0 ws S test is) (l8 : 0 ≤ test) (u8 : test ≤ 1) (l9 : 0 ≤ is) (u9 : is ≤ 1) (l10 : 0 ≤ x10) (u10 : x10 ≤ 0) (e0 : S 480 14 = x10) : (True) ∧ (True) ∧ rxIBSK_14 S0 ws S test ∧ rxmBSK_14 S0 ws S test < rxmBSK_13 S0 ws S test is := by
  obtain ⟨hI, hx⟩ := hinv
  obtain ⟨a_, b_, c_, d_⟩ := rxcBSW_13_0 hP hin I0 hI l8 u8 l9 u9 l10 u10 e0
  exact ⟨a_, b_, ⟨c_, hx⟩, d_⟩
theorem rxgBSK_13_0 {X : (Nat → Int → Int) → Prop} {S0 : Nat → Int → Int} {ws : List Int} (hP : rxPBSK S0 ws) : bx_obC rxL X S0 rxCBSK.2.2.1 (rxIBSK S0 ws) (rxmBSK S0 ws) 13 rxzBSK_13 rxoBSK_13_0 := by
  intro S S_p r r_p hinv hX hin hsm_ hseg
  obtain ⟨I0, I1, h0_, hr_, b_, f_, d_⟩ := bx_cl (evs := [(0, (0, 480), (0, 14), .inr (0, (10, 0)))]) (fvs := []) hseg (by decide +kernel) (by decide +kernel)
  have hinv : rxIBSK_13 S0 ws S (r 8) (r 9) := hinv
  rw [← hr_ 8 (by decide), ← hr_ 9 (by decide)] at hinv
  obtain ⟨⟨l8, u8⟩, ⟨l9, u9⟩, ⟨l10, u10⟩, -⟩ := b_
  obtain ⟨e0, w_⟩ := d_
  subst w_
  have g := rxcBSK_13_0 hP hin I0 hinv l8 u8 l9 u9 l10 u10 e0
  refine ⟨bx_narP_ok (l := []) g.1, bx_nfP_ok h0_ (fvs := []) (by decide +kernel) g.2.1, ?_, ?_⟩
  · show rxIBSK_14 S0 ws S_p (bx_val [(0, 0), (0, 0), (0, 0), (0, 0), (0, 0), (0, 0), (0, 0), (0, 0), (8, 0)] r_p 8)
    rw [bx_val_x (n := 8) (e := (8, 0)) h0_ rfl]
    exact g.2.2.1
  · show rxmBSK_14 S0 ws S_p (bx_val [(0, 0), (0, 0), (0, 0), (0, 0), (0, 0), (0, 0), (0, 0), (0, 0), (8, 0)] r_p 8) < rxmBSK_13 S0 ws S_p (r 8) (r 9)
    rw [bx_val_x (n := 8) (e := (8, 0)) h0_ rfl, ← hr_ 8 (by decide), ← hr_ 9 (by decide)]
    exact g.2.2.2
theorem rxdBSK_13_0 {S0 : Nat → Int → Int} {ws : List Int} {S : Nat → Int → Int} {test is x10 : Int} (hP : rxPBSK S0 ws) (hin : bx_same rxL (bx_mdl rxCBSK.2.2.1) S0 S) (hin2 : bx_same rxL (bx_mdl rxCBSK.2.2.1) S S) (I0 : bx_Inv rxL S) (I1 : bx_Inv rxL S) (hinv : rxIBSK_13 S0 ws S test is) (l8 : 0 ≤ test) (u8 : test ≤ 1) (l9 : 0 ≤ is) (u9 : is ≤ 1) (l10 : 1 ≤ x10) (u10 : x10 ≤ 1) (f0 : x10 ≠ 0) (e0 : S 480 14 = x10) : (True) ∧ rxPSBSK S0 ws S (some 3) := by
  obtain ⟨hI, hx⟩ := hinv
  obtain ⟨a_, c_⟩ := rxdBSW_13_0 hP hin hin2 I0 I1 hI l8 u8 l9 u9 l10 u10 f0 e0
  exact ⟨a_, c_, (by
    intro c hD tst s rest hw r hc z14
    exact absurd z14 (by omega))⟩
theorem rxfBSK_13_0 {X : (Nat → Int → Int) → Prop} {S0 : Nat → Int → Int} {ws : List Int} (hP : rxPBSK S0 ws) : bx_obE rxL X S0 rxCBSK.2.2.1 (rxIBSK S0 ws) (rxPSBSK S0 ws) 13 rxzBSK_13 rxeBSK_13_0 := by
  intro S S_p r r_p hinv hX hin hsm_ hseg
  obtain ⟨I0, I1, h0_, hr_, b_, f_, d_⟩ := bx_cl (evs := [(0, (0, 480), (0, 14), .inr (0, (10, 0)))]) (fvs := [(3, (10, 0), (0, 0), (0, 0))]) hseg (by decide +kernel) (by decide +kernel)
  have hinv : rxIBSK_13 S0 ws S (r 8) (r 9) := hinv
  rw [← hr_ 8 (by decide), ← hr_ 9 (by decide)] at hinv
  obtain ⟨⟨l8, u8⟩, ⟨l9, u9⟩, ⟨l10, u10⟩, -⟩ := b_
  obtain ⟨f0, -⟩ := f_
  obtain ⟨e0, w_⟩ := d_
  subst w_
  have g := rxdBSK_13_0 hP hin hsm_ I0 I1 hinv l8 u8 l9 u9 l10 u10 f0 e0
  refine ⟨bx_narP_ok (l := []) g.1, ?_⟩
  show rxPSBSK S0 ws S_p (some (bx_num r_p (.inr (0, (0, 3)))))
  rw [bx_xv_ok h0_]
  exact g.2
theorem rxcBSK_15_0 {S0 : Nat → Int → Int} {ws : List Int} {S : Nat → Int → Int} {test x9 : Int} (hP : rxPBSK S0 ws) (hin : bx_same rxL (bx_mdl rxCBSK.2.2.1) S0 S) (I0 : bx_Inv rxL S) (hinv : rxIBSK_15 S0 ws S test) (l8 : 0 ≤ test) (u8 : test ≤ 1) (l9 : 0 ≤ x9) (u9 : x9 ≤ 400) (e0 : S 480 24 = x9) : ((1 ≤ x9 ∧ x9 ≤ 400) ∧ True) ∧ (True) ∧ rxIBSK_16 S0 ws S test x9 ∧ rxmBSK_16 S0 ws S test x9 < rxmBSK_15 S0 ws S test := by
  obtain ⟨hI, hx⟩ := hinv
  obtain ⟨a_, b_, c_, d_⟩ := rxcBSW_15_0 hP hin I0 hI l8 u8 l9 u9 e0
  exact ⟨a_, b_, ⟨c_, hx⟩, d_⟩
theorem rxgBSK_15_0 {X : (Nat → Int → Int) → Prop} {S0 : Nat → Int → Int} {ws : List Int} (hP : rxPBSK S0 ws) : bx_obC rxL X S0 rxCBSK.2.2.1 (rxIBSK S0 ws) (rxmBSK S0 ws) 15 rxzBSK_15 rxoBSK_15_0 := by
  intro S S_p r r_p hinv hX hin hsm_ hseg
  obtain ⟨I0, I1, h0_, hr_, b_, f_, d_⟩ := bx_cl (evs := [(0, (0, 480), (0, 24), .inr (0, (9, 0)))]) (fvs := []) hseg (by decide +kernel) (by decide +kernel)
  have hinv : rxIBSK_15 S0 ws S (r 8) := hinv
  rw [← hr_ 8 (by decide)] at hinv
  obtain ⟨⟨l8, u8⟩, ⟨l9, u9⟩, -⟩ := b_
  obtain ⟨e0, w_⟩ := d_
  subst w_
  have g := rxcBSK_15_0 hP hin I0 hinv l8 u8 l9 u9 e0
  refine ⟨bx_narP_ok (l := [(9, 1, 400)]) g.1, bx_nfP_ok h0_ (fvs := []) (by decide +kernel) g.2.1, ?_, ?_⟩
  · show rxIBSK_16 S0 ws S_p (bx_val [(0, 0), (0, 0), (0, 0), (0, 0), (0, 0), (0, 0), (0, 0), (0, 0), (8, 0), (9, 0)] r_p 8) (bx_val [(0, 0), (0, 0), (0, 0), (0, 0), (0, 0), (0, 0), (0, 0), (0, 0), (8, 0), (9, 0)] r_p 9)
    rw [bx_val_x (n := 8) (e := (8, 0)) h0_ rfl, bx_val_x (n := 9) (e := (9, 0)) h0_ rfl]
    exact g.2.2.1
  · show rxmBSK_16 S0 ws S_p (bx_val [(0, 0), (0, 0), (0, 0), (0, 0), (0, 0), (0, 0), (0, 0), (0, 0), (8, 0), (9, 0)] r_p 8) (bx_val [(0, 0), (0, 0), (0, 0), (0, 0), (0, 0), (0, 0), (0, 0), (0, 0), (8, 0), (9, 0)] r_p 9) < rxmBSK_15 S0 ws S_p (r 8)
    rw [bx_val_x (n := 8) (e := (8, 0)) h0_ rfl, bx_val_x (n := 9) (e := (9, 0)) h0_ rfl, ← hr_ 8 (by decide)]
    exact g.2.2.2
theorem rxcBSK_16_0 {S0 : Nat → Int → Int} {ws : List Int} {S : Nat → Int → Int} {test pn x10 : Int} (hP : rxPBSK S0 ws) (hin : bx_same rxL (bx_mdl rxCBSK.2.2.1) S0 S) (I0 : bx_Inv rxL S) (hinv : rxIBSK_16 S0 ws S test pn) (l8 : 0 ≤ test) (u8 : test ≤ 1) (l9 : 1 ≤ pn) (u9 : pn ≤ 400) (l10 : 0 ≤ x10) (u10 : x10 ≤ 8) (e0 : (bx_up S 480 24 (pn + (-1))) 480 25 = x10) : ((1 ≤ x10 ∧ x10 ≤ 8) ∧ True) ∧ (True) ∧ rxIBSK_17 S0 ws (bx_up S 480 24 (pn + (-1))) test x10 ∧ rxmBSK_17 S0 ws (bx_up S 480 24 (pn + (-1))) test x10 < rxmBSK_16 S0 ws S test pn := by
  obtain ⟨hI, hx⟩ := hinv
  obtain ⟨a_, b_, c_, d_⟩ := rxcBSW_16_0 hP hin I0 hI l8 u8 l9 u9 l10 u10 e0
  exact ⟨a_, b_, ⟨c_, (by
    intro b c hC hW
    obtain ⟨g1, g2⟩ := hx b c hC hW
    have e := g1.2.2.1
    obtain ⟨hpn, -⟩ := hI.1
    have q_ := rkMd_pop (S_p := (bx_up S 480 24 (pn + (-1)))) g1 (by omega) ((bx_up_at).trans (by omega)) ((bx_up_ne (by omega))) (fun j => ⟨(bx_up_ne (by omega)), (bx_up_ne (by omega))⟩) (fun j => ⟨(bx_up_ne (by omega)), (bx_up_ne (by omega))⟩)
    exact ⟨q_.1, g2.tr q_.2⟩)⟩, d_⟩
theorem rxgBSK_16_0 {X : (Nat → Int → Int) → Prop} {S0 : Nat → Int → Int} {ws : List Int} (hP : rxPBSK S0 ws) : bx_obC rxL X S0 rxCBSK.2.2.1 (rxIBSK S0 ws) (rxmBSK S0 ws) 16 rxzBSK_16 rxoBSK_16_0 := by
  intro S S_p r r_p hinv hX hin hsm_ hseg
  obtain ⟨I0, I1, h0_, hr_, b_, f_, d_⟩ := bx_cl (evs := [(0, (0, 480), (0, 25), .inr (0, (10, 0))), (1, (0, 480), (0, 24), .inr (0, (9, (-1))))]) (fvs := []) hseg (by decide +kernel) (by decide +kernel)
  have hinv : rxIBSK_16 S0 ws S (r 8) (r 9) := hinv
  rw [← hr_ 8 (by decide), ← hr_ 9 (by decide)] at hinv
  obtain ⟨⟨l8, u8⟩, ⟨l9, u9⟩, ⟨l10, u10⟩, -⟩ := b_
  obtain ⟨e0, ⟨T1, w_, w1⟩⟩ := d_
  subst w1
  subst w_
  have g := rxcBSK_16_0 hP hin I0 hinv l8 u8 l9 u9 l10 u10 e0
  refine ⟨bx_narP_ok (l := [(10, 1, 8)]) g.1, bx_nfP_ok h0_ (fvs := []) (by decide +kernel) g.2.1, ?_, ?_⟩
  · show rxIBSK_17 S0 ws (bx_up T1 480 (24) (r_p 9 + (-1))) (bx_val [(0, 0), (0, 0), (0, 0), (0, 0), (0, 0), (0, 0), (0, 0), (0, 0), (8, 0), (10, 0)] r_p 8) (bx_val [(0, 0), (0, 0), (0, 0), (0, 0), (0, 0), (0, 0), (0, 0), (0, 0), (8, 0), (10, 0)] r_p 9)
    rw [bx_val_x (n := 8) (e := (8, 0)) h0_ rfl, bx_val_x (n := 9) (e := (10, 0)) h0_ rfl]
    exact g.2.2.1
  · show rxmBSK_17 S0 ws (bx_up T1 480 (24) (r_p 9 + (-1))) (bx_val [(0, 0), (0, 0), (0, 0), (0, 0), (0, 0), (0, 0), (0, 0), (0, 0), (8, 0), (10, 0)] r_p 8) (bx_val [(0, 0), (0, 0), (0, 0), (0, 0), (0, 0), (0, 0), (0, 0), (0, 0), (8, 0), (10, 0)] r_p 9) < rxmBSK_16 S0 ws T1 (r 8) (r 9)
    rw [bx_val_x (n := 8) (e := (8, 0)) h0_ rfl, bx_val_x (n := 9) (e := (10, 0)) h0_ rfl, ← hr_ 8 (by decide), ← hr_ 9 (by decide)]
    exact g.2.2.2
theorem rxdBSK_17_0 {S0 : Nat → Int → Int} {ws : List Int} {S : Nat → Int → Int} {test q : Int} (hP : rxPBSK S0 ws) (hin : bx_same rxL (bx_mdl rxCBSK.2.2.1) S0 S) (hin2 : bx_same rxL (bx_mdl rxCBSK.2.2.1) S (bx_up S 480 25 (q + (-1)))) (I0 : bx_Inv rxL S) (I1 : bx_Inv rxL (bx_up S 480 25 (q + (-1)))) (hinv : rxIBSK_17 S0 ws S test q) (l8 : 0 ≤ test) (u8 : test ≤ 1) (l9 : 1 ≤ q) (u9 : q ≤ 8) : (True) ∧ rxPSBSK S0 ws (bx_up S 480 25 (q + (-1))) (some 3) := by
  obtain ⟨hI, hx⟩ := hinv
  obtain ⟨a_, c_⟩ := rxdBSW_17_0 hP hin hin2 I0 I1 hI l8 u8 l9 u9
  exact ⟨a_, c_, (by
    intro c hD tst s rest hw r hc z14 zne b cc hC hW
    obtain ⟨hb, h14, hh⟩ := hI.2
    have g93 := (hh hD).1
    obtain ⟨g1, g2⟩ := hx b cc hC hW
    have q_ := rkMd_ne (S_p := (bx_up S 480 25 (q + (-1)))) g1 ((bx_up_ne (by omega))) ((bx_up_ne (by omega))) (fun j => ⟨(bx_up_ne (by omega)), (bx_up_ne (by omega))⟩) (fun j => ⟨(bx_up_ne (by omega)), (bx_up_ne (by omega))⟩)
    rcases rzBr_in r.2.2 r.1 hb with q | q | q
    · omega
    · obtain ⟨q1, q2, q3⟩ := q
      subst q3
      rw [rkSt_cl (Or.inl ⟨q1, rfl, g93⟩), rkRed_sq hC r q1]
      exact ⟨q_.1, g2.tr q_.2⟩
    · omega)⟩
theorem rxfBSK_17_0 {X : (Nat → Int → Int) → Prop} {S0 : Nat → Int → Int} {ws : List Int} (hP : rxPBSK S0 ws) : bx_obE rxL X S0 rxCBSK.2.2.1 (rxIBSK S0 ws) (rxPSBSK S0 ws) 17 rxzBSK_17 rxeBSK_17_0 := by
  intro S S_p r r_p hinv hX hin hsm_ hseg
  obtain ⟨I0, I1, h0_, hr_, b_, f_, d_⟩ := bx_cl (evs := [(1, (0, 480), (0, 25), .inr (0, (9, (-1))))]) (fvs := []) hseg (by decide +kernel) (by decide +kernel)
  have hinv : rxIBSK_17 S0 ws S (r 8) (r 9) := hinv
  rw [← hr_ 8 (by decide), ← hr_ 9 (by decide)] at hinv
  obtain ⟨⟨l8, u8⟩, ⟨l9, u9⟩, -⟩ := b_
  obtain ⟨T0, w_, w0⟩ := d_
  subst w0
  subst w_
  have g := rxdBSK_17_0 hP hin hsm_ I0 I1 hinv l8 u8 l9 u9
  refine ⟨bx_narP_ok (l := []) g.1, ?_⟩
  show rxPSBSK S0 ws (bx_up T0 480 (25) (r_p 9 + (-1))) (some (bx_num r_p (.inr (0, (0, 3)))))
  rw [bx_xv_ok h0_]
  exact g.2
theorem rxcBSK_19_0 {S0 : Nat → Int → Int} {ws : List Int} {S : Nat → Int → Int} {test cmp x10 : Int} (hP : rxPBSK S0 ws) (hin : bx_same rxL (bx_mdl rxCBSK.2.2.1) S0 S) (I0 : bx_Inv rxL S) (hinv : rxIBSK_19 S0 ws S test cmp) (l8 : 0 ≤ test) (u8 : test ≤ 1) (l9 : 0 ≤ cmp) (u9 : cmp ≤ 0) (l10 : 0 ≤ x10) (u10 : x10 ≤ 2) (f0 : x10 ≠ 3) (f1 : x10 ≠ 3) (f2 : x10 ≠ 3) (e0 : S 480 11 = x10) : (True) ∧ (True) ∧ rxIBSK_20 S0 ws S test 27 0 ∧ rxmBSK_20 S0 ws S test 27 0 < rxmBSK_19 S0 ws S test cmp := by
  obtain ⟨hI, hx⟩ := hinv
  obtain ⟨a_, b_, c_, d_⟩ := rxcBSW_19_0 hP hin I0 hI l8 u8 l9 u9 l10 u10 f0 f1 f2 e0
  exact ⟨a_, b_, ⟨c_, (by
    intro hD his
    omega)⟩, d_⟩
theorem rxgBSK_19_0 {X : (Nat → Int → Int) → Prop} {S0 : Nat → Int → Int} {ws : List Int} (hP : rxPBSK S0 ws) : bx_obC rxL X S0 rxCBSK.2.2.1 (rxIBSK S0 ws) (rxmBSK S0 ws) 19 rxzBSK_19 rxoBSK_19_0 := by
  intro S S_p r r_p hinv hX hin hsm_ hseg
  obtain ⟨I0, I1, h0_, hr_, b_, f_, d_⟩ := bx_cl (evs := [(0, (0, 480), (0, 11), .inr (0, (10, 0)))]) (fvs := [(3, (10, 0), (0, 3), (0, 0)), (3, (10, 0), (0, 3), (0, 0)), (3, (10, 0), (0, 3), (0, 0))]) hseg (by decide +kernel) (by decide +kernel)
  have hinv : rxIBSK_19 S0 ws S (r 8) (r 9) := hinv
  rw [← hr_ 8 (by decide), ← hr_ 9 (by decide)] at hinv
  obtain ⟨⟨l8, u8⟩, ⟨l9, u9⟩, ⟨l10, u10⟩, -⟩ := b_
  obtain ⟨f0, f1, f2, -⟩ := f_
  obtain ⟨e0, w_⟩ := d_
  subst w_
  have g := rxcBSK_19_0 hP hin I0 hinv l8 u8 l9 u9 l10 u10 f0 f1 f2 e0
  refine ⟨bx_narP_ok (l := []) g.1, bx_nfP_ok h0_ (fvs := []) (by decide +kernel) g.2.1, ?_, ?_⟩
  · show rxIBSK_20 S0 ws S_p (bx_val [(0, 0), (0, 0), (0, 0), (0, 0), (0, 0), (0, 0), (0, 0), (0, 0), (8, 0), (0, 27), (0, 0)] r_p 8) (bx_val [(0, 0), (0, 0), (0, 0), (0, 0), (0, 0), (0, 0), (0, 0), (0, 0), (8, 0), (0, 27), (0, 0)] r_p 9) (bx_val [(0, 0), (0, 0), (0, 0), (0, 0), (0, 0), (0, 0), (0, 0), (0, 0), (8, 0), (0, 27), (0, 0)] r_p 10)
    rw [bx_val_x (n := 8) (e := (8, 0)) h0_ rfl, bx_val_x (n := 9) (e := (0, 27)) h0_ rfl, bx_val_x (n := 10) (e := (0, 0)) h0_ rfl]
    exact g.2.2.1
  · show rxmBSK_20 S0 ws S_p (bx_val [(0, 0), (0, 0), (0, 0), (0, 0), (0, 0), (0, 0), (0, 0), (0, 0), (8, 0), (0, 27), (0, 0)] r_p 8) (bx_val [(0, 0), (0, 0), (0, 0), (0, 0), (0, 0), (0, 0), (0, 0), (0, 0), (8, 0), (0, 27), (0, 0)] r_p 9) (bx_val [(0, 0), (0, 0), (0, 0), (0, 0), (0, 0), (0, 0), (0, 0), (0, 0), (8, 0), (0, 27), (0, 0)] r_p 10) < rxmBSK_19 S0 ws S_p (r 8) (r 9)
    rw [bx_val_x (n := 8) (e := (8, 0)) h0_ rfl, bx_val_x (n := 9) (e := (0, 27)) h0_ rfl, bx_val_x (n := 10) (e := (0, 0)) h0_ rfl, ← hr_ 8 (by decide), ← hr_ 9 (by decide)]
    exact g.2.2.2
theorem rxcBSK_19_1 {S0 : Nat → Int → Int} {ws : List Int} {S : Nat → Int → Int} {test cmp x10 x11 : Int} (hP : rxPBSK S0 ws) (hin : bx_same rxL (bx_mdl rxCBSK.2.2.1) S0 S) (I0 : bx_Inv rxL S) (hinv : rxIBSK_19 S0 ws S test cmp) (l8 : 0 ≤ test) (u8 : test ≤ 1) (l9 : 0 ≤ cmp) (u9 : cmp ≤ 0) (l10 : 3 ≤ x10) (u10 : x10 ≤ 3) (l11 : (-9223372036854775808) ≤ x11) (u11 : x11 ≤ 9223372036854775807) (f0 : x11 ≠ 61) (f1 : x11 ≠ 62) (f2 : x11 ≠ 60) (e1 : S 480 11 = x10) (e0 : S 480 12 = x11) : (True) ∧ (True) ∧ rxIBSK_20 S0 ws S test 27 0 ∧ rxmBSK_20 S0 ws S test 27 0 < rxmBSK_19 S0 ws S test cmp := by
  obtain ⟨hI, hx⟩ := hinv
  obtain ⟨a_, b_, c_, d_⟩ := rxcBSW_19_1 hP hin I0 hI l8 u8 l9 u9 l10 u10 l11 u11 f0 f1 f2 e1 e0
  exact ⟨a_, b_, ⟨c_, (by
    intro hD his
    omega)⟩, d_⟩
theorem rxgBSK_19_1 {X : (Nat → Int → Int) → Prop} {S0 : Nat → Int → Int} {ws : List Int} (hP : rxPBSK S0 ws) : bx_obC rxL X S0 rxCBSK.2.2.1 (rxIBSK S0 ws) (rxmBSK S0 ws) 19 rxzBSK_19 rxoBSK_19_1 := by
  intro S S_p r r_p hinv hX hin hsm_ hseg
  obtain ⟨I0, I1, h0_, hr_, b_, f_, d_⟩ := bx_cl (evs := [(0, (0, 480), (0, 12), .inr (1, (11, 0))), (0, (0, 480), (0, 11), .inr (0, (10, 0)))]) (fvs := [(3, (11, 0), (0, 61), (0, 0)), (3, (11, 0), (0, 62), (0, 0)), (3, (11, 0), (0, 60), (0, 0))]) hseg (by decide +kernel) (by decide +kernel)
  have hinv : rxIBSK_19 S0 ws S (r 8) (r 9) := hinv
  rw [← hr_ 8 (by decide), ← hr_ 9 (by decide)] at hinv
  obtain ⟨⟨l8, u8⟩, ⟨l9, u9⟩, ⟨l10, u10⟩, ⟨l11, u11⟩, -⟩ := b_
  obtain ⟨f0, f1, f2, -⟩ := f_
  obtain ⟨e0, ⟨e1, w_⟩⟩ := d_
  subst w_
  have g := rxcBSK_19_1 hP hin I0 hinv l8 u8 l9 u9 l10 u10 l11 u11 f0 f1 f2 e1 e0
  refine ⟨bx_narP_ok (l := []) g.1, bx_nfP_ok h0_ (fvs := []) (by decide +kernel) g.2.1, ?_, ?_⟩
  · show rxIBSK_20 S0 ws S_p (bx_val [(0, 0), (0, 0), (0, 0), (0, 0), (0, 0), (0, 0), (0, 0), (0, 0), (8, 0), (0, 27), (0, 0)] r_p 8) (bx_val [(0, 0), (0, 0), (0, 0), (0, 0), (0, 0), (0, 0), (0, 0), (0, 0), (8, 0), (0, 27), (0, 0)] r_p 9) (bx_val [(0, 0), (0, 0), (0, 0), (0, 0), (0, 0), (0, 0), (0, 0), (0, 0), (8, 0), (0, 27), (0, 0)] r_p 10)
    rw [bx_val_x (n := 8) (e := (8, 0)) h0_ rfl, bx_val_x (n := 9) (e := (0, 27)) h0_ rfl, bx_val_x (n := 10) (e := (0, 0)) h0_ rfl]
    exact g.2.2.1
  · show rxmBSK_20 S0 ws S_p (bx_val [(0, 0), (0, 0), (0, 0), (0, 0), (0, 0), (0, 0), (0, 0), (0, 0), (8, 0), (0, 27), (0, 0)] r_p 8) (bx_val [(0, 0), (0, 0), (0, 0), (0, 0), (0, 0), (0, 0), (0, 0), (0, 0), (8, 0), (0, 27), (0, 0)] r_p 9) (bx_val [(0, 0), (0, 0), (0, 0), (0, 0), (0, 0), (0, 0), (0, 0), (0, 0), (8, 0), (0, 27), (0, 0)] r_p 10) < rxmBSK_19 S0 ws S_p (r 8) (r 9)
    rw [bx_val_x (n := 8) (e := (8, 0)) h0_ rfl, bx_val_x (n := 9) (e := (0, 27)) h0_ rfl, bx_val_x (n := 10) (e := (0, 0)) h0_ rfl, ← hr_ 8 (by decide), ← hr_ 9 (by decide)]
    exact g.2.2.2
theorem rxcBSK_19_2 {S0 : Nat → Int → Int} {ws : List Int} {S : Nat → Int → Int} {test cmp x10 x11 : Int} (hP : rxPBSK S0 ws) (hin : bx_same rxL (bx_mdl rxCBSK.2.2.1) S0 S) (I0 : bx_Inv rxL S) (hinv : rxIBSK_19 S0 ws S test cmp) (l8 : 0 ≤ test) (u8 : test ≤ 1) (l9 : 0 ≤ cmp) (u9 : cmp ≤ 0) (l10 : 3 ≤ x10) (u10 : x10 ≤ 3) (l11 : 61 ≤ x11) (u11 : x11 ≤ 61) (f0 : x11 ≠ 62) (f1 : x11 ≠ 60) (e1 : S 480 11 = x10) (e0 : S 480 12 = x11) : (True) ∧ (True) ∧ rxIBSK_20 S0 ws S test 27 1 ∧ rxmBSK_20 S0 ws S test 27 1 < rxmBSK_19 S0 ws S test cmp := by
  obtain ⟨hI, hx⟩ := hinv
  obtain ⟨a_, b_, c_, d_⟩ := rxcBSW_19_2 hP hin I0 hI l8 u8 l9 u9 l10 u10 l11 u11 f0 f1 e1 e0
  exact ⟨a_, b_, ⟨c_, (by
    intro hD his
    have e := hI.1.1
    subst e
    have q := (of_decide_eq_true ((rzDq_sg hD (c := 61) (by decide) (by decide)).mp ⟨by omega, by omega⟩) : _ < _ ∧ _ = _).2
    exact Or.inr (Or.inr (⟨rfl, q⟩)))⟩, d_⟩
theorem rxgBSK_19_2 {X : (Nat → Int → Int) → Prop} {S0 : Nat → Int → Int} {ws : List Int} (hP : rxPBSK S0 ws) : bx_obC rxL X S0 rxCBSK.2.2.1 (rxIBSK S0 ws) (rxmBSK S0 ws) 19 rxzBSK_19 rxoBSK_19_2 := by
  intro S S_p r r_p hinv hX hin hsm_ hseg
  obtain ⟨I0, I1, h0_, hr_, b_, f_, d_⟩ := bx_cl (evs := [(0, (0, 480), (0, 12), .inr (1, (11, 0))), (0, (0, 480), (0, 11), .inr (0, (10, 0)))]) (fvs := [(3, (11, 0), (0, 62), (0, 0)), (3, (11, 0), (0, 60), (0, 0))]) hseg (by decide +kernel) (by decide +kernel)
  have hinv : rxIBSK_19 S0 ws S (r 8) (r 9) := hinv
  rw [← hr_ 8 (by decide), ← hr_ 9 (by decide)] at hinv
  obtain ⟨⟨l8, u8⟩, ⟨l9, u9⟩, ⟨l10, u10⟩, ⟨l11, u11⟩, -⟩ := b_
  obtain ⟨f0, f1, -⟩ := f_
  obtain ⟨e0, ⟨e1, w_⟩⟩ := d_
  subst w_
  have g := rxcBSK_19_2 hP hin I0 hinv l8 u8 l9 u9 l10 u10 l11 u11 f0 f1 e1 e0
  refine ⟨bx_narP_ok (l := []) g.1, bx_nfP_ok h0_ (fvs := []) (by decide +kernel) g.2.1, ?_, ?_⟩
  · show rxIBSK_20 S0 ws S_p (bx_val [(0, 0), (0, 0), (0, 0), (0, 0), (0, 0), (0, 0), (0, 0), (0, 0), (8, 0), (0, 27), (0, 1)] r_p 8) (bx_val [(0, 0), (0, 0), (0, 0), (0, 0), (0, 0), (0, 0), (0, 0), (0, 0), (8, 0), (0, 27), (0, 1)] r_p 9) (bx_val [(0, 0), (0, 0), (0, 0), (0, 0), (0, 0), (0, 0), (0, 0), (0, 0), (8, 0), (0, 27), (0, 1)] r_p 10)
    rw [bx_val_x (n := 8) (e := (8, 0)) h0_ rfl, bx_val_x (n := 9) (e := (0, 27)) h0_ rfl, bx_val_x (n := 10) (e := (0, 1)) h0_ rfl]
    exact g.2.2.1
  · show rxmBSK_20 S0 ws S_p (bx_val [(0, 0), (0, 0), (0, 0), (0, 0), (0, 0), (0, 0), (0, 0), (0, 0), (8, 0), (0, 27), (0, 1)] r_p 8) (bx_val [(0, 0), (0, 0), (0, 0), (0, 0), (0, 0), (0, 0), (0, 0), (0, 0), (8, 0), (0, 27), (0, 1)] r_p 9) (bx_val [(0, 0), (0, 0), (0, 0), (0, 0), (0, 0), (0, 0), (0, 0), (0, 0), (8, 0), (0, 27), (0, 1)] r_p 10) < rxmBSK_19 S0 ws S_p (r 8) (r 9)
    rw [bx_val_x (n := 8) (e := (8, 0)) h0_ rfl, bx_val_x (n := 9) (e := (0, 27)) h0_ rfl, bx_val_x (n := 10) (e := (0, 1)) h0_ rfl, ← hr_ 8 (by decide), ← hr_ 9 (by decide)]
    exact g.2.2.2
theorem rxcBSK_19_3 {S0 : Nat → Int → Int} {ws : List Int} {S : Nat → Int → Int} {test cmp x10 x11 : Int} (hP : rxPBSK S0 ws) (hin : bx_same rxL (bx_mdl rxCBSK.2.2.1) S0 S) (I0 : bx_Inv rxL S) (hinv : rxIBSK_19 S0 ws S test cmp) (l8 : 0 ≤ test) (u8 : test ≤ 1) (l9 : 0 ≤ cmp) (u9 : cmp ≤ 0) (l10 : 3 ≤ x10) (u10 : x10 ≤ 3) (l11 : 62 ≤ x11) (u11 : x11 ≤ 62) (f0 : x11 ≠ 60) (e1 : S 480 11 = x10) (e0 : S 480 12 = x11) : (True) ∧ (True) ∧ rxIBSK_20 S0 ws S test 26 1 ∧ rxmBSK_20 S0 ws S test 26 1 < rxmBSK_19 S0 ws S test cmp := by
  obtain ⟨hI, hx⟩ := hinv
  obtain ⟨a_, b_, c_, d_⟩ := rxcBSW_19_3 hP hin I0 hI l8 u8 l9 u9 l10 u10 l11 u11 f0 e1 e0
  exact ⟨a_, b_, ⟨c_, (by
    intro hD his
    have e := hI.1.1
    subst e
    have q := (of_decide_eq_true ((rzDq_sg hD (c := 62) (by decide) (by decide)).mp ⟨by omega, by omega⟩) : _ < _ ∧ _ = _).2
    exact Or.inr (Or.inl ⟨rfl, q⟩))⟩, d_⟩
theorem rxgBSK_19_3 {X : (Nat → Int → Int) → Prop} {S0 : Nat → Int → Int} {ws : List Int} (hP : rxPBSK S0 ws) : bx_obC rxL X S0 rxCBSK.2.2.1 (rxIBSK S0 ws) (rxmBSK S0 ws) 19 rxzBSK_19 rxoBSK_19_3 := by
  intro S S_p r r_p hinv hX hin hsm_ hseg
  obtain ⟨I0, I1, h0_, hr_, b_, f_, d_⟩ := bx_cl (evs := [(0, (0, 480), (0, 12), .inr (1, (11, 0))), (0, (0, 480), (0, 11), .inr (0, (10, 0)))]) (fvs := [(3, (11, 0), (0, 60), (0, 0))]) hseg (by decide +kernel) (by decide +kernel)
  have hinv : rxIBSK_19 S0 ws S (r 8) (r 9) := hinv
  rw [← hr_ 8 (by decide), ← hr_ 9 (by decide)] at hinv
  obtain ⟨⟨l8, u8⟩, ⟨l9, u9⟩, ⟨l10, u10⟩, ⟨l11, u11⟩, -⟩ := b_
  obtain ⟨f0, -⟩ := f_
  obtain ⟨e0, ⟨e1, w_⟩⟩ := d_
  subst w_
  have g := rxcBSK_19_3 hP hin I0 hinv l8 u8 l9 u9 l10 u10 l11 u11 f0 e1 e0
  refine ⟨bx_narP_ok (l := []) g.1, bx_nfP_ok h0_ (fvs := []) (by decide +kernel) g.2.1, ?_, ?_⟩
  · show rxIBSK_20 S0 ws S_p (bx_val [(0, 0), (0, 0), (0, 0), (0, 0), (0, 0), (0, 0), (0, 0), (0, 0), (8, 0), (0, 26), (0, 1)] r_p 8) (bx_val [(0, 0), (0, 0), (0, 0), (0, 0), (0, 0), (0, 0), (0, 0), (0, 0), (8, 0), (0, 26), (0, 1)] r_p 9) (bx_val [(0, 0), (0, 0), (0, 0), (0, 0), (0, 0), (0, 0), (0, 0), (0, 0), (8, 0), (0, 26), (0, 1)] r_p 10)
    rw [bx_val_x (n := 8) (e := (8, 0)) h0_ rfl, bx_val_x (n := 9) (e := (0, 26)) h0_ rfl, bx_val_x (n := 10) (e := (0, 1)) h0_ rfl]
    exact g.2.2.1
  · show rxmBSK_20 S0 ws S_p (bx_val [(0, 0), (0, 0), (0, 0), (0, 0), (0, 0), (0, 0), (0, 0), (0, 0), (8, 0), (0, 26), (0, 1)] r_p 8) (bx_val [(0, 0), (0, 0), (0, 0), (0, 0), (0, 0), (0, 0), (0, 0), (0, 0), (8, 0), (0, 26), (0, 1)] r_p 9) (bx_val [(0, 0), (0, 0), (0, 0), (0, 0), (0, 0), (0, 0), (0, 0), (0, 0), (8, 0), (0, 26), (0, 1)] r_p 10) < rxmBSK_19 S0 ws S_p (r 8) (r 9)
    rw [bx_val_x (n := 8) (e := (8, 0)) h0_ rfl, bx_val_x (n := 9) (e := (0, 26)) h0_ rfl, bx_val_x (n := 10) (e := (0, 1)) h0_ rfl, ← hr_ 8 (by decide), ← hr_ 9 (by decide)]
    exact g.2.2.2
theorem rxcBSK_19_4 {S0 : Nat → Int → Int} {ws : List Int} {S : Nat → Int → Int} {test cmp x10 x11 : Int} (hP : rxPBSK S0 ws) (hin : bx_same rxL (bx_mdl rxCBSK.2.2.1) S0 S) (I0 : bx_Inv rxL S) (hinv : rxIBSK_19 S0 ws S test cmp) (l8 : 0 ≤ test) (u8 : test ≤ 1) (l9 : 0 ≤ cmp) (u9 : cmp ≤ 0) (l10 : 3 ≤ x10) (u10 : x10 ≤ 3) (l11 : 60 ≤ x11) (u11 : x11 ≤ 60) (e1 : S 480 11 = x10) (e0 : S 480 12 = x11) : (True) ∧ (True) ∧ rxIBSK_20 S0 ws S test 25 1 ∧ rxmBSK_20 S0 ws S test 25 1 < rxmBSK_19 S0 ws S test cmp := by
  obtain ⟨hI, hx⟩ := hinv
  obtain ⟨a_, b_, c_, d_⟩ := rxcBSW_19_4 hP hin I0 hI l8 u8 l9 u9 l10 u10 l11 u11 e1 e0
  exact ⟨a_, b_, ⟨c_, (by
    intro hD his
    have e := hI.1.1
    subst e
    have q := (of_decide_eq_true ((rzDq_sg hD (c := 60) (by decide) (by decide)).mp ⟨by omega, by omega⟩) : _ < _ ∧ _ = _).2
    exact Or.inl ⟨rfl, q⟩)⟩, d_⟩
theorem rxgBSK_19_4 {X : (Nat → Int → Int) → Prop} {S0 : Nat → Int → Int} {ws : List Int} (hP : rxPBSK S0 ws) : bx_obC rxL X S0 rxCBSK.2.2.1 (rxIBSK S0 ws) (rxmBSK S0 ws) 19 rxzBSK_19 rxoBSK_19_4 := by
  intro S S_p r r_p hinv hX hin hsm_ hseg
  obtain ⟨I0, I1, h0_, hr_, b_, f_, d_⟩ := bx_cl (evs := [(0, (0, 480), (0, 12), .inr (1, (11, 0))), (0, (0, 480), (0, 11), .inr (0, (10, 0)))]) (fvs := []) hseg (by decide +kernel) (by decide +kernel)
  have hinv : rxIBSK_19 S0 ws S (r 8) (r 9) := hinv
  rw [← hr_ 8 (by decide), ← hr_ 9 (by decide)] at hinv
  obtain ⟨⟨l8, u8⟩, ⟨l9, u9⟩, ⟨l10, u10⟩, ⟨l11, u11⟩, -⟩ := b_
  obtain ⟨e0, ⟨e1, w_⟩⟩ := d_
  subst w_
  have g := rxcBSK_19_4 hP hin I0 hinv l8 u8 l9 u9 l10 u10 l11 u11 e1 e0
  refine ⟨bx_narP_ok (l := []) g.1, bx_nfP_ok h0_ (fvs := []) (by decide +kernel) g.2.1, ?_, ?_⟩
  · show rxIBSK_20 S0 ws S_p (bx_val [(0, 0), (0, 0), (0, 0), (0, 0), (0, 0), (0, 0), (0, 0), (0, 0), (8, 0), (0, 25), (0, 1)] r_p 8) (bx_val [(0, 0), (0, 0), (0, 0), (0, 0), (0, 0), (0, 0), (0, 0), (0, 0), (8, 0), (0, 25), (0, 1)] r_p 9) (bx_val [(0, 0), (0, 0), (0, 0), (0, 0), (0, 0), (0, 0), (0, 0), (0, 0), (8, 0), (0, 25), (0, 1)] r_p 10)
    rw [bx_val_x (n := 8) (e := (8, 0)) h0_ rfl, bx_val_x (n := 9) (e := (0, 25)) h0_ rfl, bx_val_x (n := 10) (e := (0, 1)) h0_ rfl]
    exact g.2.2.1
  · show rxmBSK_20 S0 ws S_p (bx_val [(0, 0), (0, 0), (0, 0), (0, 0), (0, 0), (0, 0), (0, 0), (0, 0), (8, 0), (0, 25), (0, 1)] r_p 8) (bx_val [(0, 0), (0, 0), (0, 0), (0, 0), (0, 0), (0, 0), (0, 0), (0, 0), (8, 0), (0, 25), (0, 1)] r_p 9) (bx_val [(0, 0), (0, 0), (0, 0), (0, 0), (0, 0), (0, 0), (0, 0), (0, 0), (8, 0), (0, 25), (0, 1)] r_p 10) < rxmBSK_19 S0 ws S_p (r 8) (r 9)
    rw [bx_val_x (n := 8) (e := (8, 0)) h0_ rfl, bx_val_x (n := 9) (e := (0, 25)) h0_ rfl, bx_val_x (n := 10) (e := (0, 1)) h0_ rfl, ← hr_ 8 (by decide), ← hr_ 9 (by decide)]
    exact g.2.2.2
theorem rxdBSK_19_0 {S0 : Nat → Int → Int} {ws : List Int} {S : Nat → Int → Int} {test cmp : Int} (hP : rxPBSK S0 ws) (hin : bx_same rxL (bx_mdl rxCBSK.2.2.1) S0 S) (hin2 : bx_same rxL (bx_mdl rxCBSK.2.2.1) S S) (I0 : bx_Inv rxL S) (I1 : bx_Inv rxL S) (hinv : rxIBSK_19 S0 ws S test cmp) (l8 : 0 ≤ test) (u8 : test ≤ 1) (l9 : 1 ≤ cmp) (u9 : cmp ≤ 1) (f0 : cmp ≠ 0) : (True) ∧ rxPSBSK S0 ws S (some 2) := by
  obtain ⟨hI, hx⟩ := hinv
  obtain ⟨a_, c_⟩ := rxdBSW_19_0 hP hin hin2 I0 I1 hI l8 u8 l9 u9 f0
  exact ⟨a_, c_, (by
    intro c hD tst s rest hw r hc z14 zne
    have e := hI.1.1
    subst e
    exact absurd rfl zne)⟩
theorem rxfBSK_19_0 {X : (Nat → Int → Int) → Prop} {S0 : Nat → Int → Int} {ws : List Int} (hP : rxPBSK S0 ws) : bx_obE rxL X S0 rxCBSK.2.2.1 (rxIBSK S0 ws) (rxPSBSK S0 ws) 19 rxzBSK_19 rxeBSK_19_0 := by
  intro S S_p r r_p hinv hX hin hsm_ hseg
  obtain ⟨I0, I1, h0_, hr_, b_, f_, d_⟩ := bx_cl (evs := []) (fvs := [(3, (9, 0), (0, 0), (0, 0))]) hseg (by decide +kernel) (by decide +kernel)
  have hinv : rxIBSK_19 S0 ws S (r 8) (r 9) := hinv
  rw [← hr_ 8 (by decide), ← hr_ 9 (by decide)] at hinv
  obtain ⟨⟨l8, u8⟩, ⟨l9, u9⟩, -⟩ := b_
  obtain ⟨f0, -⟩ := f_
  have w_ := d_
  subst w_
  have g := rxdBSK_19_0 hP hin hsm_ I0 I1 hinv l8 u8 l9 u9 f0
  refine ⟨bx_narP_ok (l := []) g.1, ?_⟩
  show rxPSBSK S0 ws S_p (some (bx_num r_p (.inr (0, (0, 2)))))
  rw [bx_xv_ok h0_]
  exact g.2
theorem rxcBSK_21_0 {S0 : Nat → Int → Int} {ws : List Int} {S : Nat → Int → Int} {test op is x11 : Int} (hP : rxPBSK S0 ws) (hin : bx_same rxL (bx_mdl rxCBSK.2.2.1) S0 S) (I0 : bx_Inv rxL S) (hinv : rxIBSK_21 S0 ws S test op is) (l8 : 0 ≤ test) (u8 : test ≤ 1) (l9 : 25 ≤ op) (u9 : op ≤ 27) (l10 : 0 ≤ is) (u10 : is ≤ 1) (l11 : 0 ≤ x11) (u11 : x11 ≤ 0) (e0 : S 480 14 = x11) : (True) ∧ (True) ∧ rxIBSK_22 S0 ws S test op ∧ rxmBSK_22 S0 ws S test op < rxmBSK_21 S0 ws S test op is := by
  obtain ⟨hI, hx⟩ := hinv
  obtain ⟨a_, b_, c_, d_⟩ := rxcBSW_21_0 hP hin I0 hI l8 u8 l9 u9 l10 u10 l11 u11 e0
  exact ⟨a_, b_, ⟨c_, (by
    exact ⟨hx.1, fun hD => hx.2 hD (by omega)⟩)⟩, d_⟩
theorem rxgBSK_21_0 {X : (Nat → Int → Int) → Prop} {S0 : Nat → Int → Int} {ws : List Int} (hP : rxPBSK S0 ws) : bx_obC rxL X S0 rxCBSK.2.2.1 (rxIBSK S0 ws) (rxmBSK S0 ws) 21 rxzBSK_21 rxoBSK_21_0 := by
  intro S S_p r r_p hinv hX hin hsm_ hseg
  obtain ⟨I0, I1, h0_, hr_, b_, f_, d_⟩ := bx_cl (evs := [(0, (0, 480), (0, 14), .inr (0, (11, 0)))]) (fvs := []) hseg (by decide +kernel) (by decide +kernel)
  have hinv : rxIBSK_21 S0 ws S (r 8) (r 9) (r 10) := hinv
  rw [← hr_ 8 (by decide), ← hr_ 9 (by decide), ← hr_ 10 (by decide)] at hinv
  obtain ⟨⟨l8, u8⟩, ⟨l9, u9⟩, ⟨l10, u10⟩, ⟨l11, u11⟩, -⟩ := b_
  obtain ⟨e0, w_⟩ := d_
  subst w_
  have g := rxcBSK_21_0 hP hin I0 hinv l8 u8 l9 u9 l10 u10 l11 u11 e0
  refine ⟨bx_narP_ok (l := []) g.1, bx_nfP_ok h0_ (fvs := []) (by decide +kernel) g.2.1, ?_, ?_⟩
  · show rxIBSK_22 S0 ws S_p (bx_val [(0, 0), (0, 0), (0, 0), (0, 0), (0, 0), (0, 0), (0, 0), (0, 0), (8, 0), (9, 0)] r_p 8) (bx_val [(0, 0), (0, 0), (0, 0), (0, 0), (0, 0), (0, 0), (0, 0), (0, 0), (8, 0), (9, 0)] r_p 9)
    rw [bx_val_x (n := 8) (e := (8, 0)) h0_ rfl, bx_val_x (n := 9) (e := (9, 0)) h0_ rfl]
    exact g.2.2.1
  · show rxmBSK_22 S0 ws S_p (bx_val [(0, 0), (0, 0), (0, 0), (0, 0), (0, 0), (0, 0), (0, 0), (0, 0), (8, 0), (9, 0)] r_p 8) (bx_val [(0, 0), (0, 0), (0, 0), (0, 0), (0, 0), (0, 0), (0, 0), (0, 0), (8, 0), (9, 0)] r_p 9) < rxmBSK_21 S0 ws S_p (r 8) (r 9) (r 10)
    rw [bx_val_x (n := 8) (e := (8, 0)) h0_ rfl, bx_val_x (n := 9) (e := (9, 0)) h0_ rfl, ← hr_ 8 (by decide), ← hr_ 9 (by decide), ← hr_ 10 (by decide)]
    exact g.2.2.2
theorem rxdBSK_21_0 {S0 : Nat → Int → Int} {ws : List Int} {S : Nat → Int → Int} {test op is x11 : Int} (hP : rxPBSK S0 ws) (hin : bx_same rxL (bx_mdl rxCBSK.2.2.1) S0 S) (hin2 : bx_same rxL (bx_mdl rxCBSK.2.2.1) S S) (I0 : bx_Inv rxL S) (I1 : bx_Inv rxL S) (hinv : rxIBSK_21 S0 ws S test op is) (l8 : 0 ≤ test) (u8 : test ≤ 1) (l9 : 25 ≤ op) (u9 : op ≤ 27) (l10 : 0 ≤ is) (u10 : is ≤ 1) (l11 : 1 ≤ x11) (u11 : x11 ≤ 1) (f0 : x11 ≠ 0) (e0 : S 480 14 = x11) : (True) ∧ rxPSBSK S0 ws S (some 1) := by
  obtain ⟨hI, hx⟩ := hinv
  obtain ⟨a_, c_⟩ := rxdBSW_21_0 hP hin hin2 I0 I1 hI l8 u8 l9 u9 l10 u10 l11 u11 f0 e0
  exact ⟨a_, c_, (by
    intro c hD tst s rest hw r hc z14
    exact absurd z14 (by omega))⟩
theorem rxfBSK_21_0 {X : (Nat → Int → Int) → Prop} {S0 : Nat → Int → Int} {ws : List Int} (hP : rxPBSK S0 ws) : bx_obE rxL X S0 rxCBSK.2.2.1 (rxIBSK S0 ws) (rxPSBSK S0 ws) 21 rxzBSK_21 rxeBSK_21_0 := by
  intro S S_p r r_p hinv hX hin hsm_ hseg
  obtain ⟨I0, I1, h0_, hr_, b_, f_, d_⟩ := bx_cl (evs := [(0, (0, 480), (0, 14), .inr (0, (11, 0)))]) (fvs := [(3, (11, 0), (0, 0), (0, 0))]) hseg (by decide +kernel) (by decide +kernel)
  have hinv : rxIBSK_21 S0 ws S (r 8) (r 9) (r 10) := hinv
  rw [← hr_ 8 (by decide), ← hr_ 9 (by decide), ← hr_ 10 (by decide)] at hinv
  obtain ⟨⟨l8, u8⟩, ⟨l9, u9⟩, ⟨l10, u10⟩, ⟨l11, u11⟩, -⟩ := b_
  obtain ⟨f0, -⟩ := f_
  obtain ⟨e0, w_⟩ := d_
  subst w_
  have g := rxdBSK_21_0 hP hin hsm_ I0 I1 hinv l8 u8 l9 u9 l10 u10 l11 u11 f0 e0
  refine ⟨bx_narP_ok (l := []) g.1, ?_⟩
  show rxPSBSK S0 ws S_p (some (bx_num r_p (.inr (0, (0, 1)))))
  rw [bx_xv_ok h0_]
  exact g.2
theorem rxcBSK_23_0 {S0 : Nat → Int → Int} {ws : List Int} {S : Nat → Int → Int} {test op : Int} (hP : rxPBSK S0 ws) (hin : bx_same rxL (bx_mdl rxCBSK.2.2.1) S0 S) (I0 : bx_Inv rxL S) (hinv : rxIBSK_23 S0 ws S test op) (l8 : 0 ≤ test) (u8 : test ≤ 1) (l9 : 25 ≤ op) (u9 : op ≤ 27) : (True) ∧ (True) ∧ rxIBSK_24 S0 ws S test op op ∧ rxmBSK_24 S0 ws S test op op < rxmBSK_23 S0 ws S test op := by
  obtain ⟨hI, hx⟩ := hinv
  obtain ⟨a_, b_, c_, d_⟩ := rxcBSW_23_0 hP hin I0 hI l8 u8 l9 u9
  exact ⟨a_, b_, ⟨c_, (by
    refine ⟨?_, hx⟩
    first | rfl | omega)⟩, d_⟩
theorem rxgBSK_23_0 {X : (Nat → Int → Int) → Prop} {S0 : Nat → Int → Int} {ws : List Int} (hP : rxPBSK S0 ws) : bx_obC rxL X S0 rxCBSK.2.2.1 (rxIBSK S0 ws) (rxmBSK S0 ws) 23 rxzBSK_23 rxoBSK_23_0 := by
  intro S S_p r r_p hinv hX hin hsm_ hseg
  obtain ⟨I0, I1, h0_, hr_, b_, f_, d_⟩ := bx_cl (evs := []) (fvs := []) hseg (by decide +kernel) (by decide +kernel)
  have hinv : rxIBSK_23 S0 ws S (r 8) (r 9) := hinv
  rw [← hr_ 8 (by decide), ← hr_ 9 (by decide)] at hinv
  obtain ⟨⟨l8, u8⟩, ⟨l9, u9⟩, -⟩ := b_
  have w_ := d_
  subst w_
  have g := rxcBSK_23_0 hP hin I0 hinv l8 u8 l9 u9
  refine ⟨bx_narP_ok (l := []) g.1, bx_nfP_ok h0_ (fvs := []) (by decide +kernel) g.2.1, ?_, ?_⟩
  · show rxIBSK_24 S0 ws S_p (bx_val [(0, 0), (0, 0), (0, 0), (0, 0), (0, 0), (0, 0), (0, 0), (0, 0), (8, 0), (9, 0), (9, 0)] r_p 8) (bx_val [(0, 0), (0, 0), (0, 0), (0, 0), (0, 0), (0, 0), (0, 0), (0, 0), (8, 0), (9, 0), (9, 0)] r_p 9) (bx_val [(0, 0), (0, 0), (0, 0), (0, 0), (0, 0), (0, 0), (0, 0), (0, 0), (8, 0), (9, 0), (9, 0)] r_p 10)
    rw [bx_val_x (n := 8) (e := (8, 0)) h0_ rfl, bx_val_x (n := 9) (e := (9, 0)) h0_ rfl, bx_val_x (n := 10) (e := (9, 0)) h0_ rfl]
    exact g.2.2.1
  · show rxmBSK_24 S0 ws S_p (bx_val [(0, 0), (0, 0), (0, 0), (0, 0), (0, 0), (0, 0), (0, 0), (0, 0), (8, 0), (9, 0), (9, 0)] r_p 8) (bx_val [(0, 0), (0, 0), (0, 0), (0, 0), (0, 0), (0, 0), (0, 0), (0, 0), (8, 0), (9, 0), (9, 0)] r_p 9) (bx_val [(0, 0), (0, 0), (0, 0), (0, 0), (0, 0), (0, 0), (0, 0), (0, 0), (8, 0), (9, 0), (9, 0)] r_p 10) < rxmBSK_23 S0 ws S_p (r 8) (r 9)
    rw [bx_val_x (n := 8) (e := (8, 0)) h0_ rfl, bx_val_x (n := 9) (e := (9, 0)) h0_ rfl, bx_val_x (n := 10) (e := (9, 0)) h0_ rfl, ← hr_ 8 (by decide), ← hr_ 9 (by decide)]
    exact g.2.2.2
theorem rxdBSK_25_0 {S0 : Nat → Int → Int} {ws : List Int} {S : Nat → Int → Int} {test op op2 : Int} (hP : rxPBSK S0 ws) (hin : bx_same rxL (bx_mdl rxCBSK.2.2.1) S0 S) (hin2 : bx_same rxL (bx_mdl rxCBSK.2.2.1) S S) (I0 : bx_Inv rxL S) (I1 : bx_Inv rxL S) (hinv : rxIBSK_25 S0 ws S test op op2) (l8 : 0 ≤ test) (u8 : test ≤ 1) (l9 : 25 ≤ op) (u9 : op ≤ 27) (l10 : 25 ≤ op2) (u10 : op2 ≤ 27) : (True) ∧ rxPSBSK S0 ws S (some 1) := by
  obtain ⟨hI, hx⟩ := hinv
  obtain ⟨a_, c_⟩ := rxdBSW_25_0 hP hin hin2 I0 I1 hI l8 u8 l9 u9 l10 u10
  exact ⟨a_, c_, hx⟩
theorem rxfBSK_25_0 {X : (Nat → Int → Int) → Prop} {S0 : Nat → Int → Int} {ws : List Int} (hP : rxPBSK S0 ws) : bx_obE rxL X S0 rxCBSK.2.2.1 (rxIBSK S0 ws) (rxPSBSK S0 ws) 25 rxzBSK_25 rxeBSK_25_0 := by
  intro S S_p r r_p hinv hX hin hsm_ hseg
  obtain ⟨I0, I1, h0_, hr_, b_, f_, d_⟩ := bx_cl (evs := []) (fvs := []) hseg (by decide +kernel) (by decide +kernel)
  have hinv : rxIBSK_25 S0 ws S (r 8) (r 9) (r 10) := hinv
  rw [← hr_ 8 (by decide), ← hr_ 9 (by decide), ← hr_ 10 (by decide)] at hinv
  obtain ⟨⟨l8, u8⟩, ⟨l9, u9⟩, ⟨l10, u10⟩, -⟩ := b_
  have w_ := d_
  subst w_
  have g := rxdBSK_25_0 hP hin hsm_ I0 I1 hinv l8 u8 l9 u9 l10 u10
  refine ⟨bx_narP_ok (l := []) g.1, ?_⟩
  show rxPSBSK S0 ws S_p (some (bx_num r_p (.inr (0, (0, 1)))))
  rw [bx_xv_ok h0_]
  exact g.2
theorem rxgCBSK {X : (Nat → Int → Int) → Prop} {S0 : Nat → Int → Int} {ws : List Int} (hP : rxPBSK S0 ws) : bx_allI (fun i q => rxUBSK q = true ∨ bx_allP (fun o => bx_obC rxL X S0 rxCBSK.2.2.1 (rxIBSK S0 ws) (rxmBSK S0 ws) i q.1 o) q.2.1) 0 rxYBSK := ⟨Or.inr ⟨rxgBSK_0_0 hP, rxgBSK_0_1 hP, rxgBSK_0_2 hP, rxgBSK_0_3 hP, rxgBSK_0_4 hP, rxgBSK_0_5 hP, rxgBSK_0_6 hP, trivial⟩, Or.inr ⟨rxgBSK_1_0 hP, rxgBSK_1_1 hP, trivial⟩, Or.inl rfl, Or.inl rfl, Or.inr ⟨rxgBSK_4_0 hP, trivial⟩, Or.inl rfl, Or.inr ⟨rxgBSK_6_0 hP, trivial⟩, Or.inl rfl, Or.inr trivial, Or.inl rfl, Or.inr ⟨rxgBSK_10_0 hP, rxgBSK_10_1 hP, rxgBSK_10_2 hP, trivial⟩, Or.inl rfl, Or.inl rfl, Or.inr ⟨rxgBSK_13_0 hP, trivial⟩, Or.inl rfl, Or.inr ⟨rxgBSK_15_0 hP, trivial⟩, Or.inr ⟨rxgBSK_16_0 hP, trivial⟩, Or.inr trivial, Or.inl rfl, Or.inr ⟨rxgBSK_19_0 hP, rxgBSK_19_1 hP, rxgBSK_19_2 hP, rxgBSK_19_3 hP, rxgBSK_19_4 hP, trivial⟩, Or.inl rfl, Or.inr ⟨rxgBSK_21_0 hP, trivial⟩, Or.inl rfl, Or.inr ⟨rxgBSK_23_0 hP, trivial⟩, Or.inl rfl, Or.inr trivial, trivial⟩
theorem rxgEBSK {X : (Nat → Int → Int) → Prop} {S0 : Nat → Int → Int} {ws : List Int} (hP : rxPBSK S0 ws) : bx_allI (fun i q => rxUBSK q = true ∨ bx_allP (fun E => bx_obE rxL X S0 rxCBSK.2.2.1 (rxIBSK S0 ws) (rxPSBSK S0 ws) i q.1 E) q.2.2) 0 rxYBSK := ⟨Or.inr trivial, Or.inr trivial, Or.inl rfl, Or.inl rfl, Or.inr trivial, Or.inl rfl, Or.inr trivial, Or.inl rfl, Or.inr ⟨rxfBSK_8_0 hP, trivial⟩, Or.inl rfl, Or.inr ⟨rxfBSK_10_0 hP, trivial⟩, Or.inl rfl, Or.inl rfl, Or.inr ⟨rxfBSK_13_0 hP, trivial⟩, Or.inl rfl, Or.inr trivial, Or.inr trivial, Or.inr ⟨rxfBSK_17_0 hP, trivial⟩, Or.inl rfl, Or.inr ⟨rxfBSK_19_0 hP, trivial⟩, Or.inl rfl, Or.inr ⟨rxfBSK_21_0 hP, trivial⟩, Or.inl rfl, Or.inr trivial, Or.inl rfl, Or.inr ⟨rxfBSK_25_0 hP, trivial⟩, trivial⟩
theorem rxuBSK {PX : State → Prop} {Dg : va_G} {A : Nat → Prop} {ad xa : Nat → Nat} {l : Launch} {X : (Nat → Int → Int) → Prop} (hPX : rx_PXOK rxNW A PX) (hX : ∀ S S1 : Nat → Int → Int, X S → bx_same rxL (bx_mdl rxCBSK.2.2.1) S S1 → X S1) (hQBIK : bx_ConP rxG rxNW rxAO PX Dg rxL X vwCl A ad l rxM24 rxCBIK rxPBIK rxPSBIK) (hQSTK : bx_ConP rxG rxNW rxAO PX Dg rxL X vwCl A ad l rxM275 rxCSTK rxPSTK rxPSSTK) (hQPU : bx_ConP rxG rxNW rxAO PX Dg rxL X vwCl A ad l rxM268 rxCPU rxPPU rxPSPU) (hQNXX : bx_ConP rxG rxNW rxAO PX Dg rxL X vwCl A ad l rxM264 rxCNXX rxPNXX rxPSNXX) (hQIN : bx_ConP rxG rxNW rxAO PX Dg rxL X vwCl A ad l rxM276 rxCIN rxPIN rxPSIN) (hQISW : bx_ConP rxG rxNW rxAO PX Dg rxL X vwCl A ad l rxM269 rxCISW rxPISW rxPSISW) (hQMUW : bx_ConP rxG rxNW rxAO PX Dg rxL X vwCl A ad l rxM265 rxCMUW rxPMUW rxPSMUW) (hQICW : bx_ConP rxG rxNW rxAO PX Dg rxL X vwCl A ad l rxM277 rxCICW rxPICW rxPSICW) {S0 : Nat → Int → Int} {ws : List Int} (hP : rxPBSK S0 ws) : ∀ (i : Nat) (q : bx_HE), rxYBSK[i]? = some q → rxUBSK q = true → ∀ {p : Program} {e : Env} {R : Room} {s : State} {m : MethodId} {args : Array Value} {below : List Frame} {meth : Method} {c : Code} {Q : State → Prop} {H0 : Heap}, rx_Fr rxG rxNW rxAO PX p s m args meth c rxM279 → (∀ q, H0.size ≤ q → A q) → H0 = s.heap → rxM279.2.2.2.2.2.2.1 ≤ R.cells → rxM279.2.2.2.2.2.2.2 ≤ R.slots → rxCBSK.2.2.2.1 ≤ R.frames → rxCBSK.2.2.2.1 * 40 ≤ R.locals → bx_Step p l e R s m args below meth c Q Dg rxL X vwCl A xa H0 ad rxM279 rxYBSK (rxIBSK S0 ws) (rxmBSK S0 ws) S0 rxCBSK.2.2.1 i q := by
  intro i q hq hus p e R s m args below meth c Q H0 hF hA hH0 hmc hms hd hdl
  match i, hq with
  | 0, hq =>
    cases hq
    exact absurd (show false = true from hus) Bool.false_ne_true
  | 1, hq =>
    cases hq
    exact absurd (show false = true from hus) Bool.false_ne_true
  | 2, hq =>
    cases hq
    exact rx_stepC (ins := .invokestatic 294) (len := 3) (i_p := 3) (M_p := rxM24) (d := rxCBSK.2.2.2.1) (as := [.inr (0, (10, 0))]) (t := [.inr (3, (0, 480))]) (ct := rxCBIK) hPX hF rfl hA hH0 hmc hms hd hdl (by decide +kernel) rfl rfl (by decide +kernel) (by decide +kernel) hQBIK (by decide +kernel) rfl (Or.inr ⟨_, _, _, 1, rfl, rfl, by omega, rfl, rfl, rfl⟩) (rxsBSK_2 hP)
  | 3, hq =>
    cases hq
    exact rx_stepC (ins := .invokevirtual 347) (len := 3) (i_p := 4) (M_p := rxM275) (d := rxCBSK.2.2.2.1) (as := [.inr (3, (0, 480)), .inr (0, (11, 0))]) (t := []) (ct := rxCSTK) hPX hF rfl hA hH0 hmc hms hd hdl (by decide +kernel) rfl rfl (by decide +kernel) (by decide +kernel) hQSTK (by decide +kernel) rfl (Or.inl ⟨rfl, rfl, rfl⟩) (rxsBSK_3 hP)
  | 4, hq =>
    cases hq
    exact absurd (show false = true from hus) Bool.false_ne_true
  | 5, hq =>
    cases hq
    exact rx_stepC (ins := .invokevirtual 314) (len := 3) (i_p := 6) (M_p := rxM268) (d := rxCBSK.2.2.2.1) (as := [.inr (3, (0, 480)), .inr (0, (10, 0)), .inr (0, (0, 0))]) (t := []) (ct := rxCPU) hPX hF rfl hA hH0 hmc hms hd hdl (by decide +kernel) rfl rfl (by decide +kernel) (by decide +kernel) hQPU (by decide +kernel) rfl (Or.inl ⟨rfl, rfl, rfl⟩) (rxsBSK_5 hP)
  | 6, hq =>
    cases hq
    exact absurd (show false = true from hus) Bool.false_ne_true
  | 7, hq =>
    cases hq
    exact rx_stepC (ins := .invokevirtual 253) (len := 3) (i_p := 8) (M_p := rxM264) (d := rxCBSK.2.2.2.1) (as := [.inr (3, (0, 480))]) (t := []) (ct := rxCNXX) hPX hF rfl hA hH0 hmc hms hd hdl (by decide +kernel) rfl rfl (by decide +kernel) (by decide +kernel) hQNXX (by decide +kernel) rfl (Or.inl ⟨rfl, rfl, rfl⟩) (rxsBSK_7 hP)
  | 8, hq =>
    cases hq
    exact absurd (show false = true from hus) Bool.false_ne_true
  | 9, hq =>
    cases hq
    exact rx_stepC (ins := .invokevirtual 350) (len := 3) (i_p := 10) (M_p := rxM276) (d := rxCBSK.2.2.2.1) (as := [.inr (3, (0, 480))]) (t := []) (ct := rxCIN) hPX hF rfl hA hH0 hmc hms hd hdl (by decide +kernel) rfl rfl (by decide +kernel) (by decide +kernel) hQIN (by decide +kernel) rfl (Or.inr ⟨_, _, _, 1, rfl, rfl, by omega, rfl, rfl, rfl⟩) (rxsBSK_9 hP)
  | 10, hq =>
    cases hq
    exact absurd (show false = true from hus) Bool.false_ne_true
  | 11, hq =>
    cases hq
    exact rx_stepC (ins := .invokevirtual 320) (len := 3) (i_p := 12) (M_p := rxM269) (d := rxCBSK.2.2.2.1) (as := [.inr (3, (0, 480)), .inr (0, (0, 93))]) (t := [.inr (3, (0, 480))]) (ct := rxCISW) hPX hF rfl hA hH0 hmc hms hd hdl (by decide +kernel) rfl rfl (by decide +kernel) (by decide +kernel) hQISW (by decide +kernel) rfl (Or.inr ⟨_, _, _, 1, rfl, rfl, by omega, rfl, rfl, rfl⟩) (rxsBSK_11 hP)
  | 12, hq =>
    cases hq
    exact rx_stepC (ins := .invokevirtual 284) (len := 3) (i_p := 13) (M_p := rxM265) (d := rxCBSK.2.2.2.1) (as := [.inr (3, (0, 480)), .inr (0, (9, 0))]) (t := []) (ct := rxCMUW) hPX hF rfl hA hH0 hmc hms hd hdl (by decide +kernel) rfl rfl (by decide +kernel) (by decide +kernel) hQMUW (by decide +kernel) rfl (Or.inl ⟨rfl, rfl, rfl⟩) (rxsBSK_12 hP)
  | 13, hq =>
    cases hq
    exact absurd (show false = true from hus) Bool.false_ne_true
  | 14, hq =>
    cases hq
    exact rx_stepC (ins := .invokevirtual 347) (len := 3) (i_p := 15) (M_p := rxM275) (d := rxCBSK.2.2.2.1) (as := [.inr (3, (0, 480)), .inr (0, (0, 5))]) (t := []) (ct := rxCSTK) hPX hF rfl hA hH0 hmc hms hd hdl (by decide +kernel) rfl rfl (by decide +kernel) (by decide +kernel) hQSTK (by decide +kernel) rfl (Or.inl ⟨rfl, rfl, rfl⟩) (rxsBSK_14 hP)
  | 15, hq =>
    cases hq
    exact absurd (show false = true from hus) Bool.false_ne_true
  | 16, hq =>
    cases hq
    exact absurd (show false = true from hus) Bool.false_ne_true
  | 17, hq =>
    cases hq
    exact absurd (show false = true from hus) Bool.false_ne_true
  | 18, hq =>
    cases hq
    exact rx_stepC (ins := .invokevirtual 353) (len := 3) (i_p := 19) (M_p := rxM277) (d := rxCBSK.2.2.2.1) (as := [.inr (3, (0, 480))]) (t := []) (ct := rxCICW) hPX hF rfl hA hH0 hmc hms hd hdl (by decide +kernel) rfl rfl (by decide +kernel) (by decide +kernel) hQICW (by decide +kernel) rfl (Or.inr ⟨_, _, _, 1, rfl, rfl, by omega, rfl, rfl, rfl⟩) (rxsBSK_18 hP)
  | 19, hq =>
    cases hq
    exact absurd (show false = true from hus) Bool.false_ne_true
  | 20, hq =>
    cases hq
    exact rx_stepC (ins := .invokevirtual 284) (len := 3) (i_p := 21) (M_p := rxM265) (d := rxCBSK.2.2.2.1) (as := [.inr (3, (0, 480)), .inr (0, (10, 0))]) (t := []) (ct := rxCMUW) hPX hF rfl hA hH0 hmc hms hd hdl (by decide +kernel) rfl rfl (by decide +kernel) (by decide +kernel) hQMUW (by decide +kernel) rfl (Or.inl ⟨rfl, rfl, rfl⟩) (rxsBSK_20 hP)
  | 21, hq =>
    cases hq
    exact absurd (show false = true from hus) Bool.false_ne_true
  | 22, hq =>
    cases hq
    exact rx_stepC (ins := .invokevirtual 347) (len := 3) (i_p := 23) (M_p := rxM275) (d := rxCBSK.2.2.2.1) (as := [.inr (3, (0, 480)), .inr (0, (0, 5))]) (t := []) (ct := rxCSTK) hPX hF rfl hA hH0 hmc hms hd hdl (by decide +kernel) rfl rfl (by decide +kernel) (by decide +kernel) hQSTK (by decide +kernel) rfl (Or.inl ⟨rfl, rfl, rfl⟩) (rxsBSK_22 hP)
  | 23, hq =>
    cases hq
    exact absurd (show false = true from hus) Bool.false_ne_true
  | 24, hq =>
    cases hq
    exact rx_stepC (ins := .invokevirtual 314) (len := 3) (i_p := 25) (M_p := rxM268) (d := rxCBSK.2.2.2.1) (as := [.inr (3, (0, 480)), .inr (0, (10, 0)), .inr (0, (0, 0))]) (t := []) (ct := rxCPU) hPX hF rfl hA hH0 hmc hms hd hdl (by decide +kernel) rfl rfl (by decide +kernel) (by decide +kernel) hQPU (by decide +kernel) rfl (Or.inl ⟨rfl, rfl, rfl⟩) (rxsBSK_24 hP)
  | 25, hq =>
    cases hq
    exact absurd (show false = true from hus) Bool.false_ne_true
  | n + 26, hq => cases hq
theorem rxQBSK {PX : State → Prop} {Dg : va_G} {A : Nat → Prop} {ad xa : Nat → Nat} {l : Launch} {X : (Nat → Int → Int) → Prop} (hPX : rx_PXOK rxNW A PX) (hsl : ∀ s : State, PX s → ∀ o idx n : Nat, rxSl o idx = some n → ∃ tx : String, vk_R (rxNm o) idx tx (ad n) s)
    (hX : ∀ S S_p : Nat → Int → Int, X S → bx_same rxL (bx_mdl rxCBSK.2.2.1) S S_p → X S_p)
    (ih : ∀ (j2 : Nat) (ct2 : bx_Ct) (M2 : rx_Mt), ct2 ∈ rxCnE j2 → ct2.2.2.2.1 + 1 ≤ rxCBSK.2.2.2.1 → rxT.2.2.2.2.2 j2 = some M2 → bx_Con rxG rxNW rxAO PX Dg rxL X vwCl A ad l M2 ct2) (hQBIK : bx_ConP rxG rxNW rxAO PX Dg rxL X vwCl A ad l rxM24 rxCBIK rxPBIK rxPSBIK) (hQSTK : bx_ConP rxG rxNW rxAO PX Dg rxL X vwCl A ad l rxM275 rxCSTK rxPSTK rxPSSTK) (hQPU : bx_ConP rxG rxNW rxAO PX Dg rxL X vwCl A ad l rxM268 rxCPU rxPPU rxPSPU) (hQNXX : bx_ConP rxG rxNW rxAO PX Dg rxL X vwCl A ad l rxM264 rxCNXX rxPNXX rxPSNXX) (hQIN : bx_ConP rxG rxNW rxAO PX Dg rxL X vwCl A ad l rxM276 rxCIN rxPIN rxPSIN) (hQISW : bx_ConP rxG rxNW rxAO PX Dg rxL X vwCl A ad l rxM269 rxCISW rxPISW rxPSISW) (hQMUW : bx_ConP rxG rxNW rxAO PX Dg rxL X vwCl A ad l rxM265 rxCMUW rxPMUW rxPSMUW) (hQICW : bx_ConP rxG rxNW rxAO PX Dg rxL X vwCl A ad l rxM277 rxCICW rxPICW rxPSICW) : bx_ConP rxG rxNW rxAO PX Dg rxL X vwCl A ad l rxM279 rxCBSK rxPBSK rxPSBSK :=
  rxQof (xa := xa) (Cn := rxCnE) (f := 30000) (j := 279) (tab := rxYBSK) (us := rxUBSK) hPX hsl hX ih rfl rxYcBSK rxIBSK rxmBSK
    (fun S0 ws r I0 I ht0 ht as he he1 hX0 hI0 hP hs ha => by
      have e := he.symm.trans (show bx_ent0 rxNP rxCBSK.1 bx_I0 [] = some ([(0, 0), (0, 0), (0, 0), (0, 0), (0, 0), (0, 0), (0, 0), (0, 0), (0, 1)], [], [.inr (3, (0, 480)), .inr (0, (8, 0))]) from rfl)
      cases e
      subst ha
      have h0 : r 0 = 0 := hs.1
      show rxIBSK_0 S0 _ S0 (r 8)
      refine ⟨⟨⟨rfl, ?_⟩, trivial⟩, trivial⟩
      simp only [List.map_cons, List.map_nil, bx_xv_ok h0]
      rfl)
    (fun S0 ws hP => rxuBSK (xa := xa) hPX hX hQBIK hQSTK hQPU hQNXX hQIN hQISW hQMUW hQICW hP) (fun S0 ws hP => rxgCBSK hP) (fun S0 ws hP => rxgEBSK hP)
