/-! CONTRACT BY HAND, by program (wip/sim/genhand.py): DeadUnderstudies$Town.addPart -/
def rxI111_0 (S0 : Nat → Int → Int) (ws : List Int) (S : Nat → Int → Int) (fa tb : Int) : Prop := S = S0 ∧ ws = [1, fa, tb]
def rxm111_0 (S0 : Nat → Int → Int) (ws : List Int) (S : Nat → Int → Int) (fa tb : Int) : Nat := 100
def rxz111_0 : rx_Z := ([(0, 0), (0, 0), (0, 0), (0, 0), (0, 0), (0, 0), (0, 0), (0, 0), (0, 23), (1, 24)], [], [], 0, 0, 0, [(0, .inr (3, (0, 1))), (1, .inr (0, (8, 0))), (2, .inr (0, (9, 0)))], [])
def rxe111_0_0 : rx_End × List (Nat × Int × Int) := (([(0, 0), (0, 0), (0, 0), (0, 0), (0, 0), (0, 0), (0, 0), (0, 0), (0, 23), (1, 24), (6, 6)], [], [(((0, 0), 1851192626986356797424340330377019318111018015026043177553952768000000), .inr (0, (10, 0))), (((0, 1), 0), .inr (0, (10, 0)))], some (.inr (0, (0, (-1))))), [])
def rxe111_0_1 : rx_End × List (Nat × Int × Int) := (([(0, 0), (0, 0), (0, 0), (0, 0), (0, 0), (0, 0), (0, 0), (0, 0), (0, 23), (1, 24), (0, 5), (0, 1522)], [], [(((0, 0), 1851192626986356797424340330377019318111018015026043177553952771000000), .inr (0, (10, 1))), (((0, 1), 0), .inr (0, (10, 1))), (((0, 0), 917100006000000), .inl none), (((0, 0), 918000006000000), .inl none), (((0, 0), 89999100006000000), .inl none), (((11, 0), 1000010), .inl none), (((0, 1), 3), .inr (3, (0, 4))), (((0, 0), 1851192626986356797424370955790042202572729718740712036694163459000000), .inr (0, (9, 0))), (((0, 1), 2), .inr (3, (0, 3))), (((0, 0), 1851192626986356797424370955790042202572729718740712036693573635000000), .inr (0, (8, 0))), (((0, 1), 1), .inr (3, (0, 2))), (((0, 0), 1851192626986356797424340330377019318111018015026043177553952768000000), .inr (0, (10, 0)))], some (.inr (0, (10, 0)))), [])
def rxY111 : List bx_HE := [(rxz111_0, [], [rxe111_0_0, rxe111_0_1])]
def rxU111 (q : bx_HE) : Bool := false
def rxYB111 : bx_B := (rxV, rxNP, rxDmf, bx_mdH rxC111.2.2.1)
set_option maxRecDepth 100000 in
theorem rxYc111 : bx_chkH rxYB111 rxM111 rxC111 rxY111 (rxU111, fun cut z => rx_ex2 (rxCT rxYB111 rxCn) cut 30000 rxC111.2.2.2.1 111 z) = true := by decide +kernel
def rxI111 (S0 : Nat → Int → Int) (ws : List Int) (i : Nat) : bx_SP := fun S r => match i with | 0 => rxI111_0 S0 ws S (r 8) (r 9) | _ => False
def rxm111 (S0 : Nat → Int → Int) (ws : List Int) (i : Nat) (S : Nat → Int → Int) (r : Nat → Int) : Nat := match i with | 0 => rxm111_0 S0 ws S (r 8) (r 9) | _ => 0
def rxP111 (S0 : Nat → Int → Int) (ws : List Int) : Prop := True
def rxPS111 (S0 : Nat → Int → Int) (ws : List Int) (S : Nat → Int → Int) (w : Option Int) : Prop := ∃ fa tb : Int, ws = [1, fa, tb] ∧ ((6 ≤ S0 1 0 ∧ w = some (-1)) ∨ (S0 1 0 < 6 ∧ w = some (S0 1 0) ∧ S 1 0 = S0 1 0 + 1 ∧ S 138 0 = S0 138 0 ∧ S 274 0 = S0 274 0))
theorem rxd111_0_0 {S0 : Nat → Int → Int} {ws : List Int} {S : Nat → Int → Int} {fa tb x10 : Int} (hP : rxP111 S0 ws) (hin : bx_same rxL (bx_mdl rxC111.2.2.1) S0 S) (hin2 : bx_same rxL (bx_mdl rxC111.2.2.1) S S) (I0 : bx_Inv rxL S) (I1 : bx_Inv rxL S) (hinv : rxI111_0 S0 ws S fa tb) (l8 : 0 ≤ fa) (u8 : fa ≤ 23) (l9 : 1 ≤ tb) (u9 : tb ≤ 24) (l10 : 6 ≤ x10) (u10 : x10 ≤ 6) (e0 : S 1 0 = x10) : (True) ∧ rxPS111 S0 ws S (some ((-1))) := by
  obtain ⟨rfl, hw⟩ := hinv
  refine ⟨trivial, fa, tb, hw, Or.inl (⟨?_, ?_⟩)⟩ <;> first | omega | exact hin2 | exact congrArg some (by omega) | (intro i i0 i1; simp only [bx_up]; (repeat' split) <;> first | rfl | omega | (simp_all; done) | (simp_all; omega)) | ((repeat (first | rw [bx_up_at] | rw [bx_up_ne (by omega)])); omega)
theorem rxf111_0_0 {X : (Nat → Int → Int) → Prop} {S0 : Nat → Int → Int} {ws : List Int} (hP : rxP111 S0 ws) : bx_obE rxL X S0 rxC111.2.2.1 (rxI111 S0 ws) (rxPS111 S0 ws) 0 rxz111_0 rxe111_0_0 := by
  intro S S' r r' hinv hX hin hsm_ hseg
  obtain ⟨I0, I1, h0_, hr_, b_, f_, d_⟩ := bx_cl (evs := [(0, (0, 1), (0, 0), .inr (0, (10, 0)))]) (fvs := []) hseg (by decide +kernel) (by decide +kernel)
  have hinv : rxI111_0 S0 ws S (r 8) (r 9) := hinv
  rw [← hr_ 8 (by decide), ← hr_ 9 (by decide)] at hinv
  obtain ⟨⟨l8, u8⟩, ⟨l9, u9⟩, ⟨l10, u10⟩, -⟩ := b_
  obtain ⟨e0, w_⟩ := d_
  subst w_
  have g := rxd111_0_0 hP hin hsm_ I0 I1 hinv l8 u8 l9 u9 l10 u10 e0
  refine ⟨bx_narP_ok (l := []) g.1, ?_⟩
  show rxPS111 S0 ws S' (some (bx_num r' (.inr (0, (0, (-1))))))
  rw [bx_xv_ok h0_]
  exact g.2
theorem rxd111_0_1 {S0 : Nat → Int → Int} {ws : List Int} {S T3 T2 T1 : Nat → Int → Int} {fa tb x10 x11 : Int} (hP : rxP111 S0 ws) (hin : bx_same rxL (bx_mdl rxC111.2.2.1) S0 S) (hin2 : bx_same rxL (bx_mdl rxC111.2.2.1) S (bx_up T1 1 0 (x10 + 1))) (I0 : bx_Inv rxL S) (I1 : bx_Inv rxL (bx_up T1 1 0 (x10 + 1))) (hinv : rxI111_0 S0 ws S fa tb) (l8 : 0 ≤ fa) (u8 : fa ≤ 23) (l9 : 1 ≤ tb) (u9 : tb ≤ 24) (l10 : 0 ≤ x10) (u10 : x10 ≤ 5) (l11 : 0 ≤ x11) (u11 : x11 ≤ 1522) (e6 : S 1 0 = x10) (v3 : ∀ (p i : Nat), p < rxL.2.1 → i < bx_wd (rxL.1 p) → bx_mc (rxL.1 p) i ≠ (99999, 0) → T3 p (i : Int) = (bx_up (bx_up S 2 x10 fa) 3 x10 tb) p (i : Int)) (v2 : ∀ (p i : Nat), p < rxL.2.1 → i < bx_wd (rxL.1 p) → bx_mc (rxL.1 p) i ≠ (1020, 0) → T2 p (i : Int) = T3 p (i : Int)) (v1 : ∀ (p i : Nat), p < rxL.2.1 → i < bx_wd (rxL.1 p) → bx_mc (rxL.1 p) i ≠ (1019, 0) → T1 p (i : Int) = T2 p (i : Int)) : (True) ∧ rxPS111 S0 ws (bx_up T1 1 0 (x10 + 1)) (some x10) := by
  obtain ⟨rfl, hw⟩ := hinv
  refine ⟨trivial, fa, tb, hw, Or.inr (⟨?_, ?_, (bx_up_at).trans (by omega), (bx_up_ne (by omega)).trans (((rx_frH v1 (l := rxNum) (by decide +kernel) (p := 138) (i := 0) (by decide) (by decide))).trans (((rx_frH v2 (l := rxNum) (by decide +kernel) (p := 138) (i := 0) (by decide) (by decide))).trans (((rx_frH v3 (l := rxNum) (by decide +kernel) (p := 138) (i := 0) (by decide) (by decide))).trans ((bx_up_ne (by omega)).trans ((bx_up_ne (by omega))))))), (bx_up_ne (by omega)).trans (((rx_frH v1 (l := rxNum) (by decide +kernel) (p := 274) (i := 0) (by decide) (by decide))).trans (((rx_frH v2 (l := rxNum) (by decide +kernel) (p := 274) (i := 0) (by decide) (by decide))).trans (((rx_frH v3 (l := rxNum) (by decide +kernel) (p := 274) (i := 0) (by decide) (by decide))).trans ((bx_up_ne (by omega)).trans ((bx_up_ne (by omega)))))))⟩)⟩ <;> first | omega | exact hin2 | exact congrArg some (by omega) | (intro i i0 i1; simp only [bx_up]; (repeat' split) <;> first | rfl | omega | (simp_all; done) | (simp_all; omega)) | ((repeat (first | rw [bx_up_at] | rw [bx_up_ne (by omega)])); omega)
theorem rxf111_0_1 {X : (Nat → Int → Int) → Prop} {S0 : Nat → Int → Int} {ws : List Int} (hP : rxP111 S0 ws) : bx_obE rxL X S0 rxC111.2.2.1 (rxI111 S0 ws) (rxPS111 S0 ws) 0 rxz111_0 rxe111_0_1 := by
  intro S S' r r' hinv hX hin hsm_ hseg
  obtain ⟨I0, I1, h0_, hr_, b_, f_, d_⟩ := bx_cl (evs := [(1, (0, 1), (0, 0), .inr (0, (10, 1))), (2, (1019, 0), (0, 0), .inl none), (2, (1020, 0), (0, 0), .inl none), (2, (99999, 0), (0, 0), .inl none), (1, (0, 3), (10, 0), .inr (0, (9, 0))), (1, (0, 2), (10, 0), .inr (0, (8, 0))), (0, (0, 1), (0, 0), .inr (0, (10, 0)))]) (fvs := []) hseg (by decide +kernel) (by decide +kernel)
  have hinv : rxI111_0 S0 ws S (r 8) (r 9) := hinv
  rw [← hr_ 8 (by decide), ← hr_ 9 (by decide)] at hinv
  obtain ⟨⟨l8, u8⟩, ⟨l9, u9⟩, ⟨l10, u10⟩, ⟨l11, u11⟩, -⟩ := b_
  obtain ⟨T0, ⟨T1, ⟨T2, ⟨T3, ⟨T4, ⟨T5, ⟨e6, w_⟩, w5⟩, w4⟩, v3⟩, v2⟩, v1⟩, w0⟩ := d_
  subst w0
  subst w4
  subst w5
  subst w_
  have g := rxd111_0_1 hP hin hsm_ I0 I1 hinv l8 u8 l9 u9 l10 u10 l11 u11 e6 v3 v2 v1
  refine ⟨bx_narP_ok (l := []) g.1, ?_⟩
  show rxPS111 S0 ws (bx_up T0 1 (0) (r' 10 + 1)) (some (bx_num r' (.inr (0, (10, 0)))))
  rw [bx_xv_ok h0_]
  exact g.2
theorem rxgC111 {X : (Nat → Int → Int) → Prop} {S0 : Nat → Int → Int} {ws : List Int} (hP : rxP111 S0 ws) : bx_allI (fun i q => rxU111 q = true ∨ bx_allP (fun o => bx_obC rxL X S0 rxC111.2.2.1 (rxI111 S0 ws) (rxm111 S0 ws) i q.1 o) q.2.1) 0 rxY111 := ⟨Or.inr trivial, trivial⟩
theorem rxgE111 {X : (Nat → Int → Int) → Prop} {S0 : Nat → Int → Int} {ws : List Int} (hP : rxP111 S0 ws) : bx_allI (fun i q => rxU111 q = true ∨ bx_allP (fun E => bx_obE rxL X S0 rxC111.2.2.1 (rxI111 S0 ws) (rxPS111 S0 ws) i q.1 E) q.2.2) 0 rxY111 := ⟨Or.inr ⟨rxf111_0_0 hP, rxf111_0_1 hP, trivial⟩, trivial⟩
theorem rxQ111 {PX : State → Prop} {Dg : va_G} {A : Nat → Prop} {ad xa : Nat → Nat} {l : Launch} {X : (Nat → Int → Int) → Prop} (hPX : rx_PXOK rxNW A PX) (hsl : ∀ s : State, PX s → ∀ o idx n : Nat, rxSl o idx = some n → ∃ tx : String, vk_R (rxNm o) idx tx (ad n) s)
    (hX : ∀ S S' : Nat → Int → Int, X S → bx_same rxL (bx_mdl rxC111.2.2.1) S S' → X S')
    (ih : ∀ (j2 : Nat) (ct2 : bx_Ct) (M2 : rx_Mt), ct2 ∈ rxCn j2 → ct2.2.2.2.1 + 1 ≤ rxC111.2.2.2.1 → rxT.2.2.2.2.2 j2 = some M2 → bx_Con rxG rxNW rxAO PX Dg rxL X vwCl A ad l M2 ct2) : bx_ConP rxG rxNW rxAO PX Dg rxL X vwCl A ad l rxM111 rxC111 rxP111 rxPS111 :=
  rxQof (xa := xa) (Cn := rxCn) (f := 30000) (j := 111) (tab := rxY111) (us := rxU111) hPX hsl hX ih rfl rxYc111 rxI111 rxm111
    (fun S0 ws r I0 I ht0 ht as he he1 hX0 hI0 hP hs ha => by
      have e := he.symm.trans (show bx_ent0 rxNP rxC111.1 bx_I0 [] = some ([(0, 0), (0, 0), (0, 0), (0, 0), (0, 0), (0, 0), (0, 0), (0, 0), (0, 23), (1, 24)], [], [.inr (3, (0, 1)), .inr (0, (8, 0)), .inr (0, (9, 0))]) from rfl)
      cases e
      subst ha
      have h0 : r 0 = 0 := hs.1
      show rxI111_0 S0 _ S0 (r 8) (r 9)
      refine ⟨rfl, ?_⟩
      simp only [List.map_cons, List.map_nil, bx_xv_ok h0]
      rfl)
    (fun S0 ws hP => fun i q hq hus => absurd (show false = true from hus) Bool.false_ne_true) (fun S0 ws hP => rxgC111 hP) (fun S0 ws hP => rxgE111 hP)
/-! CONTRACT BY HAND, by program (wip/sim/genhand.py): DeadUnderstudies.part -/
def rxI172_0 (S0 : Nat → Int → Int) (ws : List Int) (S : Nat → Int → Int) (fa tb : Int) : Prop := S = S0 ∧ ws = [0, fa, tb]
def rxm172_0 (S0 : Nat → Int → Int) (ws : List Int) (S : Nat → Int → Int) (fa tb : Int) : Nat := 100
def rxz172_0 : rx_Z := ([(0, 0), (0, 0), (0, 0), (0, 0), (0, 0), (0, 0), (0, 0), (0, 0), ((-2147483648), 2147483647), ((-2147483648), 2147483647)], [], [], 0, 0, 0, [(0, .inr (3, (0, 0))), (1, .inr (0, (8, 0))), (2, .inr (0, (9, 0)))], [])
def rxI172_1 (S0 : Nat → Int → Int) (ws : List Int) (S : Nat → Int → Int) (fa tb : Int) : Prop := S = S0 ∧ ((fa < 0 ∨ 23 < fa ∨ tb ≤ fa ∨ 24 < tb)) ∧ ws = [0, fa, tb]
def rxm172_1 (S0 : Nat → Int → Int) (ws : List Int) (S : Nat → Int → Int) (fa tb : Int) : Nat := 50
def rxz172_1 : rx_Z := ([(0, 0), (0, 0), (0, 0), (0, 0), (0, 0), (0, 0), (0, 0), (0, 0), ((-2147483648), 2147483647), ((-2147483648), 2147483647)], [], [], 0, 0, 23, [(0, .inr (3, (0, 0))), (1, .inr (0, (8, 0))), (2, .inr (0, (9, 0)))], [.inr (0, (0, (-1))), .inr (3, (0, 0))])
def rxI172_2 (S0 : Nat → Int → Int) (ws : List Int) (S : Nat → Int → Int) (fa tb res : Int) : Prop := res = (-1) ∧ ((fa < 0 ∨ 23 < fa ∨ tb ≤ fa ∨ 24 < tb)) ∧ ws = [0, fa, tb] ∧ bx_same rxL (bx_mdl rxC110.2.2.1) S0 S
def rxm172_2 (S0 : Nat → Int → Int) (ws : List Int) (S : Nat → Int → Int) (fa tb res : Int) : Nat := 20
def rxz172_2 : rx_Z := ([(0, 0), (0, 0), (0, 0), (0, 0), (0, 0), (0, 0), (0, 0), (0, 0), ((-2147483648), 2147483647), ((-2147483648), 2147483647), ((-6), (-1))], [], [], 0, 0, 26, [(0, .inr (3, (0, 0))), (1, .inr (0, (8, 0))), (2, .inr (0, (9, 0)))], [.inr (0, (10, 0))])
def rxI172_3 (S0 : Nat → Int → Int) (ws : List Int) (S : Nat → Int → Int) (fa tb : Int) : Prop := S = S0 ∧ (0 ≤ fa ∧ fa ≤ 23 ∧ fa < tb ∧ tb ≤ 24 ∧ 6 ≤ S 1 0) ∧ ws = [0, fa, tb]
def rxm172_3 (S0 : Nat → Int → Int) (ws : List Int) (S : Nat → Int → Int) (fa tb : Int) : Nat := 50
def rxz172_3 : rx_Z := ([(0, 0), (0, 0), (0, 0), (0, 0), (0, 0), (0, 0), (0, 0), (0, 0), (0, 23), ((-2147483648), 24)], [], [], 0, 0, 42, [(0, .inr (3, (0, 0))), (1, .inr (0, (8, 0))), (2, .inr (0, (9, 0)))], [.inr (0, (0, (-5))), .inr (3, (0, 0))])
def rxI172_4 (S0 : Nat → Int → Int) (ws : List Int) (S : Nat → Int → Int) (fa tb res : Int) : Prop := res = (-5) ∧ (0 ≤ fa ∧ fa ≤ 23 ∧ fa < tb ∧ tb ≤ 24 ∧ 6 ≤ S0 1 0) ∧ ws = [0, fa, tb] ∧ bx_same rxL (bx_mdl rxC110.2.2.1) S0 S
def rxm172_4 (S0 : Nat → Int → Int) (ws : List Int) (S : Nat → Int → Int) (fa tb res : Int) : Nat := 20
def rxz172_4 : rx_Z := ([(0, 0), (0, 0), (0, 0), (0, 0), (0, 0), (0, 0), (0, 0), (0, 0), (0, 23), ((-2147483648), 24), ((-6), (-1))], [], [], 0, 0, 45, [(0, .inr (3, (0, 0))), (1, .inr (0, (8, 0))), (2, .inr (0, (9, 0)))], [.inr (0, (10, 0))])
def rxI172_5 (S0 : Nat → Int → Int) (ws : List Int) (S : Nat → Int → Int) (fa tb : Int) : Prop := S = S0 ∧ (0 ≤ fa ∧ fa ≤ 23 ∧ fa < tb ∧ tb ≤ 24 ∧ S 1 0 < 6) ∧ ws = [0, fa, tb]
def rxm172_5 (S0 : Nat → Int → Int) (ws : List Int) (S : Nat → Int → Int) (fa tb : Int) : Nat := 50
def rxz172_5 : rx_Z := ([(0, 0), (0, 0), (0, 0), (0, 0), (0, 0), (0, 0), (0, 0), (0, 0), (0, 23), (1, 24)], [], [], 0, 0, 53, [(0, .inr (3, (0, 0))), (1, .inr (0, (8, 0))), (2, .inr (0, (9, 0)))], [.inr (0, (9, 0)), .inr (0, (8, 0)), .inr (3, (0, 1)), .inr (3, (0, 0))])
def rxI172_6 (S0 : Nat → Int → Int) (ws : List Int) (S : Nat → Int → Int) (fa tb res : Int) : Prop := rxPS111 S0 [1, fa, tb] S (some res) ∧ (0 ≤ fa ∧ fa ≤ 23 ∧ fa < tb ∧ tb ≤ 24 ∧ S0 1 0 < 6) ∧ ws = [0, fa, tb]
def rxm172_6 (S0 : Nat → Int → Int) (ws : List Int) (S : Nat → Int → Int) (fa tb res : Int) : Nat := 20
def rxz172_6 : rx_Z := ([(0, 0), (0, 0), (0, 0), (0, 0), (0, 0), (0, 0), (0, 0), (0, 0), (0, 23), (1, 24), ((-1), 5)], [], [], 0, 0, 56, [(0, .inr (3, (0, 0))), (1, .inr (0, (8, 0))), (2, .inr (0, (9, 0)))], [.inr (0, (10, 0)), .inr (3, (0, 0))])
def rxo172_0_0 : bx_HO := (([(0, 0), (0, 0), (0, 0), (0, 0), (0, 0), (0, 0), (0, 0), (0, 0), (0, 23), (25, 2147483647)], [(0, (8, 0), (9, 0))], [], 0, 0, 23, [(0, .inr (3, (0, 0))), (1, .inr (0, (8, 0))), (2, .inr (0, (9, 0)))], [.inr (0, (0, (-1))), .inr (3, (0, 0))]), [], [], [(0, 0), (0, 0), (0, 0), (0, 0), (0, 0), (0, 0), (0, 0), (0, 0), (8, 0), (9, 0)], 1)
def rxo172_0_1 : bx_HO := (([(0, 0), (0, 0), (0, 0), (0, 0), (0, 0), (0, 0), (0, 0), (0, 0), (0, 23), (1, 24), (6, 6)], [(0, (8, 0), (9, 0))], [(((0, 0), 1851192626986356797424340330377019318111018015026043177553952768000000), .inr (0, (10, 0))), (((0, 1), 0), .inr (0, (10, 0))), (((0, 0), 0), .inr (3, (0, 1)))], 0, 0, 42, [(0, .inr (3, (0, 0))), (1, .inr (0, (8, 0))), (2, .inr (0, (9, 0)))], [.inr (0, (0, (-5))), .inr (3, (0, 0))]), [], [], [(0, 0), (0, 0), (0, 0), (0, 0), (0, 0), (0, 0), (0, 0), (0, 0), (8, 0), (9, 0)], 3)
def rxo172_0_2 : bx_HO := (([(0, 0), (0, 0), (0, 0), (0, 0), (0, 0), (0, 0), (0, 0), (0, 0), (0, 23), (1, 24), (0, 5)], [(0, (8, 0), (9, 0))], [(((0, 0), 1851192626986356797424340330377019318111018015026043177553952768000000), .inr (0, (10, 0))), (((0, 1), 0), .inr (0, (10, 0))), (((0, 0), 0), .inr (3, (0, 1)))], 0, 0, 53, [(0, .inr (3, (0, 0))), (1, .inr (0, (8, 0))), (2, .inr (0, (9, 0)))], [.inr (0, (9, 0)), .inr (0, (8, 0)), .inr (3, (0, 1)), .inr (3, (0, 0))]), [], [], [(0, 0), (0, 0), (0, 0), (0, 0), (0, 0), (0, 0), (0, 0), (0, 0), (8, 0), (9, 0)], 5)
def rxo172_0_3 : bx_HO := (([(0, 0), (0, 0), (0, 0), (0, 0), (0, 0), (0, 0), (0, 0), (0, 0), (0, 23), ((-2147483648), 23)], [(1, (9, 0), (8, 0))], [], 0, 0, 23, [(0, .inr (3, (0, 0))), (1, .inr (0, (8, 0))), (2, .inr (0, (9, 0)))], [.inr (0, (0, (-1))), .inr (3, (0, 0))]), [], [], [(0, 0), (0, 0), (0, 0), (0, 0), (0, 0), (0, 0), (0, 0), (0, 0), (8, 0), (9, 0)], 1)
def rxo172_0_4 : bx_HO := (([(0, 0), (0, 0), (0, 0), (0, 0), (0, 0), (0, 0), (0, 0), (0, 0), (24, 2147483647), ((-2147483648), 2147483647)], [], [], 0, 0, 23, [(0, .inr (3, (0, 0))), (1, .inr (0, (8, 0))), (2, .inr (0, (9, 0)))], [.inr (0, (0, (-1))), .inr (3, (0, 0))]), [], [], [(0, 0), (0, 0), (0, 0), (0, 0), (0, 0), (0, 0), (0, 0), (0, 0), (8, 0), (9, 0)], 1)
def rxo172_0_5 : bx_HO := (([(0, 0), (0, 0), (0, 0), (0, 0), (0, 0), (0, 0), (0, 0), (0, 0), ((-2147483648), (-1)), ((-2147483648), 2147483647)], [], [], 0, 0, 23, [(0, .inr (3, (0, 0))), (1, .inr (0, (8, 0))), (2, .inr (0, (9, 0)))], [.inr (0, (0, (-1))), .inr (3, (0, 0))]), [], [], [(0, 0), (0, 0), (0, 0), (0, 0), (0, 0), (0, 0), (0, 0), (0, 0), (8, 0), (9, 0)], 1)
def rxe172_2_0 : rx_End × List (Nat × Int × Int) := (([(0, 0), (0, 0), (0, 0), (0, 0), (0, 0), (0, 0), (0, 0), (0, 0), ((-2147483648), 2147483647), ((-2147483648), 2147483647), ((-6), (-1))], [], [], some (.inr (0, (10, 0)))), [])
def rxe172_4_0 : rx_End × List (Nat × Int × Int) := (([(0, 0), (0, 0), (0, 0), (0, 0), (0, 0), (0, 0), (0, 0), (0, 0), (0, 23), ((-2147483648), 24), ((-6), (-1))], [], [], some (.inr (0, (10, 0)))), [])
def rxe172_6_0 : rx_End × List (Nat × Int × Int) := (([(0, 0), (0, 0), (0, 0), (0, 0), (0, 0), (0, 0), (0, 0), (0, 0), (0, 23), (1, 24), ((-1), 5)], [], [(((0, 0), 1851192626986356799029993984671224184301589730656725205983952899000000), .inr (0, (0, 0))), (((0, 0), 8), .inr (0, (0, 0)))], some (.inr (0, (10, 0)))), [])
def rxY172 : List bx_HE := [(rxz172_0, [rxo172_0_0, rxo172_0_1, rxo172_0_2, rxo172_0_3, rxo172_0_4, rxo172_0_5], []), (rxz172_1, [], []), (rxz172_2, [], [rxe172_2_0]), (rxz172_3, [], []), (rxz172_4, [], [rxe172_4_0]), (rxz172_5, [], []), (rxz172_6, [], [rxe172_6_0])]
def rxU172 (q : bx_HE) : Bool := Nat.beq (rx_zpc q.1) 23 || Nat.beq (rx_zpc q.1) 42 || Nat.beq (rx_zpc q.1) 53
def rxYB172 : bx_B := (rxV, rxNP, rxDmf, bx_mdH rxC172.2.2.1)
set_option maxRecDepth 100000 in
theorem rxYc172 : bx_chkH rxYB172 rxM172 rxC172 rxY172 (rxU172, fun cut z => rx_ex2 (rxCT rxYB172 rxCnE) cut 30000 rxC172.2.2.2.1 172 z) = true := by decide +kernel
def rxI172 (S0 : Nat → Int → Int) (ws : List Int) (i : Nat) : bx_SP := fun S r => match i with | 0 => rxI172_0 S0 ws S (r 8) (r 9) | 1 => rxI172_1 S0 ws S (r 8) (r 9) | 2 => rxI172_2 S0 ws S (r 8) (r 9) (r 10) | 3 => rxI172_3 S0 ws S (r 8) (r 9) | 4 => rxI172_4 S0 ws S (r 8) (r 9) (r 10) | 5 => rxI172_5 S0 ws S (r 8) (r 9) | 6 => rxI172_6 S0 ws S (r 8) (r 9) (r 10) | _ => False
def rxm172 (S0 : Nat → Int → Int) (ws : List Int) (i : Nat) (S : Nat → Int → Int) (r : Nat → Int) : Nat := match i with | 0 => rxm172_0 S0 ws S (r 8) (r 9) | 1 => rxm172_1 S0 ws S (r 8) (r 9) | 2 => rxm172_2 S0 ws S (r 8) (r 9) (r 10) | 3 => rxm172_3 S0 ws S (r 8) (r 9) | 4 => rxm172_4 S0 ws S (r 8) (r 9) (r 10) | 5 => rxm172_5 S0 ws S (r 8) (r 9) | 6 => rxm172_6 S0 ws S (r 8) (r 9) (r 10) | _ => 0
def rxP172 (S0 : Nat → Int → Int) (ws : List Int) : Prop := True
def rxPS172 (S0 : Nat → Int → Int) (ws : List Int) (S : Nat → Int → Int) (w : Option Int) : Prop := ∃ fa tb : Int, ws = [0, fa, tb] ∧ (((fa < 0 ∨ 23 < fa ∨ tb ≤ fa ∨ 24 < tb) ∧ w = some (-1) ∧ bx_same rxL (bx_mdl rxC110.2.2.1) S0 S) ∨ (0 ≤ fa ∧ fa ≤ 23 ∧ fa < tb ∧ tb ≤ 24 ∧ 6 ≤ S0 1 0 ∧ w = some (-5) ∧ bx_same rxL (bx_mdl rxC110.2.2.1) S0 S) ∨ (0 ≤ fa ∧ fa ≤ 23 ∧ fa < tb ∧ tb ≤ 24 ∧ S0 1 0 < 6 ∧ w = some (S0 1 0) ∧ S 1 0 = S0 1 0 + 1 ∧ S 138 0 = S0 138 0 ∧ S 274 0 = S0 274 0))
theorem rxk172_1 {S0 : Nat → Int → Int} {ws : List Int} {S : Nat → Int → Int} {fa tb : Int} (hP : rxP172 S0 ws) (hin : bx_same rxL (bx_mdl rxC172.2.2.1) S0 S) (I0 : bx_Inv rxL S) (hinv : rxI172_1 S0 ws S fa tb) (l8 : (-2147483648) ≤ fa) (u8 : fa ≤ 2147483647) (l9 : (-2147483648) ≤ tb) (u9 : tb ≤ 2147483647) : rxP110 S [0, (-1)] ∧ ∀ (S' : Nat → Int → Int) (res : Int), (-6) ≤ res → res ≤ (-1) → rxPS110 S [0, (-1)] S' (some res) → bx_Inv rxL S' → bx_same rxL (bx_mdl rxC110.2.2.1) S S' → rxI172_2 S0 ws S' fa tb res ∧ rxm172_2 S0 ws S' fa tb res < rxm172_1 S0 ws S fa tb := by
  obtain ⟨rfl, h1, hw⟩ := hinv
  refine ⟨trivial, fun S' res _ _ hq _ hsm => ⟨⟨?_, h1, hw, hsm⟩, by unfold rxm172_1 rxm172_2; omega⟩⟩
  obtain ⟨c, hc, hr⟩ := hq
  simp only [List.cons.injEq, and_true, true_and] at hc
  simp only [Option.some.injEq] at hr
  omega
theorem rxs172_1 {X : (Nat → Int → Int) → Prop} {S0 : Nat → Int → Int} {ws : List Int} (hP : rxP172 S0 ws) : rx_obK X S0 rxC172.2.2.1 rxC110.2.2.1 (rxI172 S0 ws) (rxm172 S0 ws) 1 2 rxz172_1 rxz172_2 [.inr (3, (0, 0)), .inr (0, (0, (-1)))] (some 10) rxP110 rxPS110 := by
  intro S r hinv hXS I0 hin hs_ hf_
  have b_ := bx_bds_sat hs_
  have f_ := bx_fcl_ok hs_.1 hf_
  obtain ⟨⟨l8, u8⟩, ⟨l9, u9⟩, -⟩ := b_
  have g := rxk172_1 hP hin I0 hinv l8 u8 l9 u9
  have ea : List.map (bx_num r) [.inr (3, (0, 0)), .inr (0, (0, (-1)))] = [0, -1] := by
    simp only [List.map_cons, List.map_nil, bx_xv_ok hs_.1]
    rfl
  rw [ea]
  refine ⟨g.1, fun S' w r' hPS hX' I1 hsm hr hw hs' => ?_⟩
  have hw := hw _ rfl
  subst hw
  have b' := hs'.2.2 10 _ _ rfl
  have g2 := g.2 S' (r' 10) b'.1 b'.2 hPS I1 hsm
  show rxI172_2 S0 ws S' (r' 8) (r' 9) (r' 10) ∧ rxm172_2 S0 ws S' (r' 8) (r' 9) (r' 10) < _
  rw [hr 8 (by decide), hr 9 (by decide)]
  exact g2
theorem rxk172_3 {S0 : Nat → Int → Int} {ws : List Int} {S : Nat → Int → Int} {fa tb : Int} (hP : rxP172 S0 ws) (hin : bx_same rxL (bx_mdl rxC172.2.2.1) S0 S) (I0 : bx_Inv rxL S) (hinv : rxI172_3 S0 ws S fa tb) (l8 : 0 ≤ fa) (u8 : fa ≤ 23) (l9 : (-2147483648) ≤ tb) (u9 : tb ≤ 24) : rxP110 S [0, (-5)] ∧ ∀ (S' : Nat → Int → Int) (res : Int), (-6) ≤ res → res ≤ (-1) → rxPS110 S [0, (-5)] S' (some res) → bx_Inv rxL S' → bx_same rxL (bx_mdl rxC110.2.2.1) S S' → rxI172_4 S0 ws S' fa tb res ∧ rxm172_4 S0 ws S' fa tb res < rxm172_3 S0 ws S fa tb := by
  obtain ⟨rfl, h1, hw⟩ := hinv
  refine ⟨trivial, fun S' res _ _ hq _ hsm => ⟨⟨?_, h1, hw, hsm⟩, by unfold rxm172_3 rxm172_4; omega⟩⟩
  obtain ⟨c, hc, hr⟩ := hq
  simp only [List.cons.injEq, and_true, true_and] at hc
  simp only [Option.some.injEq] at hr
  omega
theorem rxs172_3 {X : (Nat → Int → Int) → Prop} {S0 : Nat → Int → Int} {ws : List Int} (hP : rxP172 S0 ws) : rx_obK X S0 rxC172.2.2.1 rxC110.2.2.1 (rxI172 S0 ws) (rxm172 S0 ws) 3 4 rxz172_3 rxz172_4 [.inr (3, (0, 0)), .inr (0, (0, (-5)))] (some 10) rxP110 rxPS110 := by
  intro S r hinv hXS I0 hin hs_ hf_
  have b_ := bx_bds_sat hs_
  have f_ := bx_fcl_ok hs_.1 hf_
  obtain ⟨⟨l8, u8⟩, ⟨l9, u9⟩, -⟩ := b_
  have g := rxk172_3 hP hin I0 hinv l8 u8 l9 u9
  have ea : List.map (bx_num r) [.inr (3, (0, 0)), .inr (0, (0, (-5)))] = [0, -5] := by
    simp only [List.map_cons, List.map_nil, bx_xv_ok hs_.1]
    rfl
  rw [ea]
  refine ⟨g.1, fun S' w r' hPS hX' I1 hsm hr hw hs' => ?_⟩
  have hw := hw _ rfl
  subst hw
  have b' := hs'.2.2 10 _ _ rfl
  have g2 := g.2 S' (r' 10) b'.1 b'.2 hPS I1 hsm
  show rxI172_4 S0 ws S' (r' 8) (r' 9) (r' 10) ∧ rxm172_4 S0 ws S' (r' 8) (r' 9) (r' 10) < _
  rw [hr 8 (by decide), hr 9 (by decide)]
  exact g2
theorem rxk172_5 {S0 : Nat → Int → Int} {ws : List Int} {S : Nat → Int → Int} {fa tb : Int} (hP : rxP172 S0 ws) (hin : bx_same rxL (bx_mdl rxC172.2.2.1) S0 S) (I0 : bx_Inv rxL S) (hinv : rxI172_5 S0 ws S fa tb) (l8 : 0 ≤ fa) (u8 : fa ≤ 23) (l9 : 1 ≤ tb) (u9 : tb ≤ 24) : rxP111 S [1, fa, tb] ∧ ∀ (S' : Nat → Int → Int) (res : Int), (-1) ≤ res → res ≤ 5 → rxPS111 S [1, fa, tb] S' (some res) → bx_Inv rxL S' → bx_same rxL (bx_mdl rxC111.2.2.1) S S' → rxI172_6 S0 ws S' fa tb res ∧ rxm172_6 S0 ws S' fa tb res < rxm172_5 S0 ws S fa tb := by
  obtain ⟨rfl, h1, hw⟩ := hinv
  exact ⟨trivial, fun S' res _ _ hq _ hsm => ⟨⟨hq, h1, hw⟩, by unfold rxm172_5 rxm172_6; omega⟩⟩
theorem rxs172_5 {X : (Nat → Int → Int) → Prop} {S0 : Nat → Int → Int} {ws : List Int} (hP : rxP172 S0 ws) : rx_obK X S0 rxC172.2.2.1 rxC111.2.2.1 (rxI172 S0 ws) (rxm172 S0 ws) 5 6 rxz172_5 rxz172_6 [.inr (3, (0, 1)), .inr (0, (8, 0)), .inr (0, (9, 0))] (some 10) rxP111 rxPS111 := by
  intro S r hinv hXS I0 hin hs_ hf_
  have b_ := bx_bds_sat hs_
  have f_ := bx_fcl_ok hs_.1 hf_
  obtain ⟨⟨l8, u8⟩, ⟨l9, u9⟩, -⟩ := b_
  have g := rxk172_5 hP hin I0 hinv l8 u8 l9 u9
  have ea : List.map (bx_num r) [.inr (3, (0, 1)), .inr (0, (8, 0)), .inr (0, (9, 0))] = [1, (r 8), (r 9)] := by
    simp only [List.map_cons, List.map_nil, bx_xv_ok hs_.1]
    rfl
  rw [ea]
  refine ⟨g.1, fun S' w r' hPS hX' I1 hsm hr hw hs' => ?_⟩
  have hw := hw _ rfl
  subst hw
  have b' := hs'.2.2 10 _ _ rfl
  have g2 := g.2 S' (r' 10) b'.1 b'.2 hPS I1 hsm
  show rxI172_6 S0 ws S' (r' 8) (r' 9) (r' 10) ∧ rxm172_6 S0 ws S' (r' 8) (r' 9) (r' 10) < _
  rw [hr 8 (by decide), hr 9 (by decide)]
  exact g2
theorem rxc172_0_0 {S0 : Nat → Int → Int} {ws : List Int} {S : Nat → Int → Int} {fa tb : Int} (hP : rxP172 S0 ws) (hin : bx_same rxL (bx_mdl rxC172.2.2.1) S0 S) (I0 : bx_Inv rxL S) (hinv : rxI172_0 S0 ws S fa tb) (l8 : 0 ≤ fa) (u8 : fa ≤ 23) (l9 : 25 ≤ tb) (u9 : tb ≤ 2147483647) (f0 : fa < tb) : (True) ∧ (True) ∧ rxI172_1 S0 ws S fa tb ∧ rxm172_1 S0 ws S fa tb < rxm172_0 S0 ws S fa tb := by
  obtain ⟨rfl, hw⟩ := hinv
  exact ⟨trivial, trivial, ⟨rfl, by omega, hw⟩, by unfold rxm172_0 rxm172_1; omega⟩
theorem rxg172_0_0 {X : (Nat → Int → Int) → Prop} {S0 : Nat → Int → Int} {ws : List Int} (hP : rxP172 S0 ws) : bx_obC rxL X S0 rxC172.2.2.1 (rxI172 S0 ws) (rxm172 S0 ws) 0 rxz172_0 rxo172_0_0 := by
  intro S S' r r' hinv hX hin hsm_ hseg
  obtain ⟨I0, I1, h0_, hr_, b_, f_, d_⟩ := bx_cl (evs := []) (fvs := [(0, (8, 0), (9, 0), (0, 0))]) hseg (by decide +kernel) (by decide +kernel)
  have hinv : rxI172_0 S0 ws S (r 8) (r 9) := hinv
  rw [← hr_ 8 (by decide), ← hr_ 9 (by decide)] at hinv
  obtain ⟨⟨l8, u8⟩, ⟨l9, u9⟩, -⟩ := b_
  obtain ⟨f0, -⟩ := f_
  have w_ := d_
  subst w_
  have g := rxc172_0_0 hP hin I0 hinv l8 u8 l9 u9 f0
  refine ⟨bx_narP_ok (l := []) g.1, bx_nfP_ok h0_ (fvs := []) (by decide +kernel) g.2.1, ?_, ?_⟩
  · show rxI172_1 S0 ws S' (bx_val [(0, 0), (0, 0), (0, 0), (0, 0), (0, 0), (0, 0), (0, 0), (0, 0), (8, 0), (9, 0)] r' 8) (bx_val [(0, 0), (0, 0), (0, 0), (0, 0), (0, 0), (0, 0), (0, 0), (0, 0), (8, 0), (9, 0)] r' 9)
    rw [bx_val_x (n := 8) (e := (8, 0)) h0_ rfl, bx_val_x (n := 9) (e := (9, 0)) h0_ rfl]
    exact g.2.2.1
  · show rxm172_1 S0 ws S' (bx_val [(0, 0), (0, 0), (0, 0), (0, 0), (0, 0), (0, 0), (0, 0), (0, 0), (8, 0), (9, 0)] r' 8) (bx_val [(0, 0), (0, 0), (0, 0), (0, 0), (0, 0), (0, 0), (0, 0), (0, 0), (8, 0), (9, 0)] r' 9) < rxm172_0 S0 ws S' (r 8) (r 9)
    rw [bx_val_x (n := 8) (e := (8, 0)) h0_ rfl, bx_val_x (n := 9) (e := (9, 0)) h0_ rfl, ← hr_ 8 (by decide), ← hr_ 9 (by decide)]
    exact g.2.2.2
theorem rxc172_0_1 {S0 : Nat → Int → Int} {ws : List Int} {S : Nat → Int → Int} {fa tb x10 : Int} (hP : rxP172 S0 ws) (hin : bx_same rxL (bx_mdl rxC172.2.2.1) S0 S) (I0 : bx_Inv rxL S) (hinv : rxI172_0 S0 ws S fa tb) (l8 : 0 ≤ fa) (u8 : fa ≤ 23) (l9 : 1 ≤ tb) (u9 : tb ≤ 24) (l10 : 6 ≤ x10) (u10 : x10 ≤ 6) (f0 : fa < tb) (e0 : S 1 0 = x10) : (True) ∧ (True) ∧ rxI172_3 S0 ws S fa tb ∧ rxm172_3 S0 ws S fa tb < rxm172_0 S0 ws S fa tb := by
  obtain ⟨rfl, hw⟩ := hinv
  exact ⟨trivial, trivial, ⟨rfl, by omega, hw⟩, by unfold rxm172_0 rxm172_3; omega⟩
theorem rxg172_0_1 {X : (Nat → Int → Int) → Prop} {S0 : Nat → Int → Int} {ws : List Int} (hP : rxP172 S0 ws) : bx_obC rxL X S0 rxC172.2.2.1 (rxI172 S0 ws) (rxm172 S0 ws) 0 rxz172_0 rxo172_0_1 := by
  intro S S' r r' hinv hX hin hsm_ hseg
  obtain ⟨I0, I1, h0_, hr_, b_, f_, d_⟩ := bx_cl (evs := [(0, (0, 1), (0, 0), .inr (0, (10, 0)))]) (fvs := [(0, (8, 0), (9, 0), (0, 0))]) hseg (by decide +kernel) (by decide +kernel)
  have hinv : rxI172_0 S0 ws S (r 8) (r 9) := hinv
  rw [← hr_ 8 (by decide), ← hr_ 9 (by decide)] at hinv
  obtain ⟨⟨l8, u8⟩, ⟨l9, u9⟩, ⟨l10, u10⟩, -⟩ := b_
  obtain ⟨f0, -⟩ := f_
  obtain ⟨e0, w_⟩ := d_
  subst w_
  have g := rxc172_0_1 hP hin I0 hinv l8 u8 l9 u9 l10 u10 f0 e0
  refine ⟨bx_narP_ok (l := []) g.1, bx_nfP_ok h0_ (fvs := []) (by decide +kernel) g.2.1, ?_, ?_⟩
  · show rxI172_3 S0 ws S' (bx_val [(0, 0), (0, 0), (0, 0), (0, 0), (0, 0), (0, 0), (0, 0), (0, 0), (8, 0), (9, 0)] r' 8) (bx_val [(0, 0), (0, 0), (0, 0), (0, 0), (0, 0), (0, 0), (0, 0), (0, 0), (8, 0), (9, 0)] r' 9)
    rw [bx_val_x (n := 8) (e := (8, 0)) h0_ rfl, bx_val_x (n := 9) (e := (9, 0)) h0_ rfl]
    exact g.2.2.1
  · show rxm172_3 S0 ws S' (bx_val [(0, 0), (0, 0), (0, 0), (0, 0), (0, 0), (0, 0), (0, 0), (0, 0), (8, 0), (9, 0)] r' 8) (bx_val [(0, 0), (0, 0), (0, 0), (0, 0), (0, 0), (0, 0), (0, 0), (0, 0), (8, 0), (9, 0)] r' 9) < rxm172_0 S0 ws S' (r 8) (r 9)
    rw [bx_val_x (n := 8) (e := (8, 0)) h0_ rfl, bx_val_x (n := 9) (e := (9, 0)) h0_ rfl, ← hr_ 8 (by decide), ← hr_ 9 (by decide)]
    exact g.2.2.2
theorem rxc172_0_2 {S0 : Nat → Int → Int} {ws : List Int} {S : Nat → Int → Int} {fa tb x10 : Int} (hP : rxP172 S0 ws) (hin : bx_same rxL (bx_mdl rxC172.2.2.1) S0 S) (I0 : bx_Inv rxL S) (hinv : rxI172_0 S0 ws S fa tb) (l8 : 0 ≤ fa) (u8 : fa ≤ 23) (l9 : 1 ≤ tb) (u9 : tb ≤ 24) (l10 : 0 ≤ x10) (u10 : x10 ≤ 5) (f0 : fa < tb) (e0 : S 1 0 = x10) : (True) ∧ (True) ∧ rxI172_5 S0 ws S fa tb ∧ rxm172_5 S0 ws S fa tb < rxm172_0 S0 ws S fa tb := by
  obtain ⟨rfl, hw⟩ := hinv
  exact ⟨trivial, trivial, ⟨rfl, by omega, hw⟩, by unfold rxm172_0 rxm172_5; omega⟩
theorem rxg172_0_2 {X : (Nat → Int → Int) → Prop} {S0 : Nat → Int → Int} {ws : List Int} (hP : rxP172 S0 ws) : bx_obC rxL X S0 rxC172.2.2.1 (rxI172 S0 ws) (rxm172 S0 ws) 0 rxz172_0 rxo172_0_2 := by
  intro S S' r r' hinv hX hin hsm_ hseg
  obtain ⟨I0, I1, h0_, hr_, b_, f_, d_⟩ := bx_cl (evs := [(0, (0, 1), (0, 0), .inr (0, (10, 0)))]) (fvs := [(0, (8, 0), (9, 0), (0, 0))]) hseg (by decide +kernel) (by decide +kernel)
  have hinv : rxI172_0 S0 ws S (r 8) (r 9) := hinv
  rw [← hr_ 8 (by decide), ← hr_ 9 (by decide)] at hinv
  obtain ⟨⟨l8, u8⟩, ⟨l9, u9⟩, ⟨l10, u10⟩, -⟩ := b_
  obtain ⟨f0, -⟩ := f_
  obtain ⟨e0, w_⟩ := d_
  subst w_
  have g := rxc172_0_2 hP hin I0 hinv l8 u8 l9 u9 l10 u10 f0 e0
  refine ⟨bx_narP_ok (l := []) g.1, bx_nfP_ok h0_ (fvs := []) (by decide +kernel) g.2.1, ?_, ?_⟩
  · show rxI172_5 S0 ws S' (bx_val [(0, 0), (0, 0), (0, 0), (0, 0), (0, 0), (0, 0), (0, 0), (0, 0), (8, 0), (9, 0)] r' 8) (bx_val [(0, 0), (0, 0), (0, 0), (0, 0), (0, 0), (0, 0), (0, 0), (0, 0), (8, 0), (9, 0)] r' 9)
    rw [bx_val_x (n := 8) (e := (8, 0)) h0_ rfl, bx_val_x (n := 9) (e := (9, 0)) h0_ rfl]
    exact g.2.2.1
  · show rxm172_5 S0 ws S' (bx_val [(0, 0), (0, 0), (0, 0), (0, 0), (0, 0), (0, 0), (0, 0), (0, 0), (8, 0), (9, 0)] r' 8) (bx_val [(0, 0), (0, 0), (0, 0), (0, 0), (0, 0), (0, 0), (0, 0), (0, 0), (8, 0), (9, 0)] r' 9) < rxm172_0 S0 ws S' (r 8) (r 9)
    rw [bx_val_x (n := 8) (e := (8, 0)) h0_ rfl, bx_val_x (n := 9) (e := (9, 0)) h0_ rfl, ← hr_ 8 (by decide), ← hr_ 9 (by decide)]
    exact g.2.2.2
theorem rxc172_0_3 {S0 : Nat → Int → Int} {ws : List Int} {S : Nat → Int → Int} {fa tb : Int} (hP : rxP172 S0 ws) (hin : bx_same rxL (bx_mdl rxC172.2.2.1) S0 S) (I0 : bx_Inv rxL S) (hinv : rxI172_0 S0 ws S fa tb) (l8 : 0 ≤ fa) (u8 : fa ≤ 23) (l9 : (-2147483648) ≤ tb) (u9 : tb ≤ 23) (f0 : tb ≤ fa) : (True) ∧ (True) ∧ rxI172_1 S0 ws S fa tb ∧ rxm172_1 S0 ws S fa tb < rxm172_0 S0 ws S fa tb := by
  obtain ⟨rfl, hw⟩ := hinv
  exact ⟨trivial, trivial, ⟨rfl, by omega, hw⟩, by unfold rxm172_0 rxm172_1; omega⟩
theorem rxg172_0_3 {X : (Nat → Int → Int) → Prop} {S0 : Nat → Int → Int} {ws : List Int} (hP : rxP172 S0 ws) : bx_obC rxL X S0 rxC172.2.2.1 (rxI172 S0 ws) (rxm172 S0 ws) 0 rxz172_0 rxo172_0_3 := by
  intro S S' r r' hinv hX hin hsm_ hseg
  obtain ⟨I0, I1, h0_, hr_, b_, f_, d_⟩ := bx_cl (evs := []) (fvs := [(1, (9, 0), (8, 0), (0, 0))]) hseg (by decide +kernel) (by decide +kernel)
  have hinv : rxI172_0 S0 ws S (r 8) (r 9) := hinv
  rw [← hr_ 8 (by decide), ← hr_ 9 (by decide)] at hinv
  obtain ⟨⟨l8, u8⟩, ⟨l9, u9⟩, -⟩ := b_
  obtain ⟨f0, -⟩ := f_
  have w_ := d_
  subst w_
  have g := rxc172_0_3 hP hin I0 hinv l8 u8 l9 u9 f0
  refine ⟨bx_narP_ok (l := []) g.1, bx_nfP_ok h0_ (fvs := []) (by decide +kernel) g.2.1, ?_, ?_⟩
  · show rxI172_1 S0 ws S' (bx_val [(0, 0), (0, 0), (0, 0), (0, 0), (0, 0), (0, 0), (0, 0), (0, 0), (8, 0), (9, 0)] r' 8) (bx_val [(0, 0), (0, 0), (0, 0), (0, 0), (0, 0), (0, 0), (0, 0), (0, 0), (8, 0), (9, 0)] r' 9)
    rw [bx_val_x (n := 8) (e := (8, 0)) h0_ rfl, bx_val_x (n := 9) (e := (9, 0)) h0_ rfl]
    exact g.2.2.1
  · show rxm172_1 S0 ws S' (bx_val [(0, 0), (0, 0), (0, 0), (0, 0), (0, 0), (0, 0), (0, 0), (0, 0), (8, 0), (9, 0)] r' 8) (bx_val [(0, 0), (0, 0), (0, 0), (0, 0), (0, 0), (0, 0), (0, 0), (0, 0), (8, 0), (9, 0)] r' 9) < rxm172_0 S0 ws S' (r 8) (r 9)
    rw [bx_val_x (n := 8) (e := (8, 0)) h0_ rfl, bx_val_x (n := 9) (e := (9, 0)) h0_ rfl, ← hr_ 8 (by decide), ← hr_ 9 (by decide)]
    exact g.2.2.2
theorem rxc172_0_4 {S0 : Nat → Int → Int} {ws : List Int} {S : Nat → Int → Int} {fa tb : Int} (hP : rxP172 S0 ws) (hin : bx_same rxL (bx_mdl rxC172.2.2.1) S0 S) (I0 : bx_Inv rxL S) (hinv : rxI172_0 S0 ws S fa tb) (l8 : 24 ≤ fa) (u8 : fa ≤ 2147483647) (l9 : (-2147483648) ≤ tb) (u9 : tb ≤ 2147483647) : (True) ∧ (True) ∧ rxI172_1 S0 ws S fa tb ∧ rxm172_1 S0 ws S fa tb < rxm172_0 S0 ws S fa tb := by
  obtain ⟨rfl, hw⟩ := hinv
  exact ⟨trivial, trivial, ⟨rfl, by omega, hw⟩, by unfold rxm172_0 rxm172_1; omega⟩
theorem rxg172_0_4 {X : (Nat → Int → Int) → Prop} {S0 : Nat → Int → Int} {ws : List Int} (hP : rxP172 S0 ws) : bx_obC rxL X S0 rxC172.2.2.1 (rxI172 S0 ws) (rxm172 S0 ws) 0 rxz172_0 rxo172_0_4 := by
  intro S S' r r' hinv hX hin hsm_ hseg
  obtain ⟨I0, I1, h0_, hr_, b_, f_, d_⟩ := bx_cl (evs := []) (fvs := []) hseg (by decide +kernel) (by decide +kernel)
  have hinv : rxI172_0 S0 ws S (r 8) (r 9) := hinv
  rw [← hr_ 8 (by decide), ← hr_ 9 (by decide)] at hinv
  obtain ⟨⟨l8, u8⟩, ⟨l9, u9⟩, -⟩ := b_
  have w_ := d_
  subst w_
  have g := rxc172_0_4 hP hin I0 hinv l8 u8 l9 u9
  refine ⟨bx_narP_ok (l := []) g.1, bx_nfP_ok h0_ (fvs := []) (by decide +kernel) g.2.1, ?_, ?_⟩
  · show rxI172_1 S0 ws S' (bx_val [(0, 0), (0, 0), (0, 0), (0, 0), (0, 0), (0, 0), (0, 0), (0, 0), (8, 0), (9, 0)] r' 8) (bx_val [(0, 0), (0, 0), (0, 0), (0, 0), (0, 0), (0, 0), (0, 0), (0, 0), (8, 0), (9, 0)] r' 9)
    rw [bx_val_x (n := 8) (e := (8, 0)) h0_ rfl, bx_val_x (n := 9) (e := (9, 0)) h0_ rfl]
    exact g.2.2.1
  · show rxm172_1 S0 ws S' (bx_val [(0, 0), (0, 0), (0, 0), (0, 0), (0, 0), (0, 0), (0, 0), (0, 0), (8, 0), (9, 0)] r' 8) (bx_val [(0, 0), (0, 0), (0, 0), (0, 0), (0, 0), (0, 0), (0, 0), (0, 0), (8, 0), (9, 0)] r' 9) < rxm172_0 S0 ws S' (r 8) (r 9)
    rw [bx_val_x (n := 8) (e := (8, 0)) h0_ rfl, bx_val_x (n := 9) (e := (9, 0)) h0_ rfl, ← hr_ 8 (by decide), ← hr_ 9 (by decide)]
    exact g.2.2.2
theorem rxc172_0_5 {S0 : Nat → Int → Int} {ws : List Int} {S : Nat → Int → Int} {fa tb : Int} (hP : rxP172 S0 ws) (hin : bx_same rxL (bx_mdl rxC172.2.2.1) S0 S) (I0 : bx_Inv rxL S) (hinv : rxI172_0 S0 ws S fa tb) (l8 : (-2147483648) ≤ fa) (u8 : fa ≤ (-1)) (l9 : (-2147483648) ≤ tb) (u9 : tb ≤ 2147483647) : (True) ∧ (True) ∧ rxI172_1 S0 ws S fa tb ∧ rxm172_1 S0 ws S fa tb < rxm172_0 S0 ws S fa tb := by
  obtain ⟨rfl, hw⟩ := hinv
  exact ⟨trivial, trivial, ⟨rfl, by omega, hw⟩, by unfold rxm172_0 rxm172_1; omega⟩
theorem rxg172_0_5 {X : (Nat → Int → Int) → Prop} {S0 : Nat → Int → Int} {ws : List Int} (hP : rxP172 S0 ws) : bx_obC rxL X S0 rxC172.2.2.1 (rxI172 S0 ws) (rxm172 S0 ws) 0 rxz172_0 rxo172_0_5 := by
  intro S S' r r' hinv hX hin hsm_ hseg
  obtain ⟨I0, I1, h0_, hr_, b_, f_, d_⟩ := bx_cl (evs := []) (fvs := []) hseg (by decide +kernel) (by decide +kernel)
  have hinv : rxI172_0 S0 ws S (r 8) (r 9) := hinv
  rw [← hr_ 8 (by decide), ← hr_ 9 (by decide)] at hinv
  obtain ⟨⟨l8, u8⟩, ⟨l9, u9⟩, -⟩ := b_
  have w_ := d_
  subst w_
  have g := rxc172_0_5 hP hin I0 hinv l8 u8 l9 u9
  refine ⟨bx_narP_ok (l := []) g.1, bx_nfP_ok h0_ (fvs := []) (by decide +kernel) g.2.1, ?_, ?_⟩
  · show rxI172_1 S0 ws S' (bx_val [(0, 0), (0, 0), (0, 0), (0, 0), (0, 0), (0, 0), (0, 0), (0, 0), (8, 0), (9, 0)] r' 8) (bx_val [(0, 0), (0, 0), (0, 0), (0, 0), (0, 0), (0, 0), (0, 0), (0, 0), (8, 0), (9, 0)] r' 9)
    rw [bx_val_x (n := 8) (e := (8, 0)) h0_ rfl, bx_val_x (n := 9) (e := (9, 0)) h0_ rfl]
    exact g.2.2.1
  · show rxm172_1 S0 ws S' (bx_val [(0, 0), (0, 0), (0, 0), (0, 0), (0, 0), (0, 0), (0, 0), (0, 0), (8, 0), (9, 0)] r' 8) (bx_val [(0, 0), (0, 0), (0, 0), (0, 0), (0, 0), (0, 0), (0, 0), (0, 0), (8, 0), (9, 0)] r' 9) < rxm172_0 S0 ws S' (r 8) (r 9)
    rw [bx_val_x (n := 8) (e := (8, 0)) h0_ rfl, bx_val_x (n := 9) (e := (9, 0)) h0_ rfl, ← hr_ 8 (by decide), ← hr_ 9 (by decide)]
    exact g.2.2.2
theorem rxd172_2_0 {S0 : Nat → Int → Int} {ws : List Int} {S : Nat → Int → Int} {fa tb res : Int} (hP : rxP172 S0 ws) (hin : bx_same rxL (bx_mdl rxC172.2.2.1) S0 S) (hin2 : bx_same rxL (bx_mdl rxC172.2.2.1) S S) (I0 : bx_Inv rxL S) (I1 : bx_Inv rxL S) (hinv : rxI172_2 S0 ws S fa tb res) (l8 : (-2147483648) ≤ fa) (u8 : fa ≤ 2147483647) (l9 : (-2147483648) ≤ tb) (u9 : tb ≤ 2147483647) (l10 : (-6) ≤ res) (u10 : res ≤ (-1)) : (True) ∧ rxPS172 S0 ws S (some res) := by
  obtain ⟨h1, h2, hw, hs⟩ := hinv
  refine ⟨trivial, fa, tb, hw, Or.inl (⟨by omega, ?_, ?_⟩)⟩
  · exact congrArg some h1
  · exact hs
theorem rxf172_2_0 {X : (Nat → Int → Int) → Prop} {S0 : Nat → Int → Int} {ws : List Int} (hP : rxP172 S0 ws) : bx_obE rxL X S0 rxC172.2.2.1 (rxI172 S0 ws) (rxPS172 S0 ws) 2 rxz172_2 rxe172_2_0 := by
  intro S S' r r' hinv hX hin hsm_ hseg
  obtain ⟨I0, I1, h0_, hr_, b_, f_, d_⟩ := bx_cl (evs := []) (fvs := []) hseg (by decide +kernel) (by decide +kernel)
  have hinv : rxI172_2 S0 ws S (r 8) (r 9) (r 10) := hinv
  rw [← hr_ 8 (by decide), ← hr_ 9 (by decide), ← hr_ 10 (by decide)] at hinv
  obtain ⟨⟨l8, u8⟩, ⟨l9, u9⟩, ⟨l10, u10⟩, -⟩ := b_
  have w_ := d_
  subst w_
  have g := rxd172_2_0 hP hin hsm_ I0 I1 hinv l8 u8 l9 u9 l10 u10
  refine ⟨bx_narP_ok (l := []) g.1, ?_⟩
  show rxPS172 S0 ws S' (some (bx_num r' (.inr (0, (10, 0)))))
  rw [bx_xv_ok h0_]
  exact g.2
theorem rxd172_4_0 {S0 : Nat → Int → Int} {ws : List Int} {S : Nat → Int → Int} {fa tb res : Int} (hP : rxP172 S0 ws) (hin : bx_same rxL (bx_mdl rxC172.2.2.1) S0 S) (hin2 : bx_same rxL (bx_mdl rxC172.2.2.1) S S) (I0 : bx_Inv rxL S) (I1 : bx_Inv rxL S) (hinv : rxI172_4 S0 ws S fa tb res) (l8 : 0 ≤ fa) (u8 : fa ≤ 23) (l9 : (-2147483648) ≤ tb) (u9 : tb ≤ 24) (l10 : (-6) ≤ res) (u10 : res ≤ (-1)) : (True) ∧ rxPS172 S0 ws S (some res) := by
  obtain ⟨h1, h2, hw, hs⟩ := hinv
  refine ⟨trivial, fa, tb, hw, Or.inr (Or.inl (⟨by omega, by omega, by omega, by omega, by omega, ?_, ?_⟩))⟩
  · exact congrArg some h1
  · exact hs
theorem rxf172_4_0 {X : (Nat → Int → Int) → Prop} {S0 : Nat → Int → Int} {ws : List Int} (hP : rxP172 S0 ws) : bx_obE rxL X S0 rxC172.2.2.1 (rxI172 S0 ws) (rxPS172 S0 ws) 4 rxz172_4 rxe172_4_0 := by
  intro S S' r r' hinv hX hin hsm_ hseg
  obtain ⟨I0, I1, h0_, hr_, b_, f_, d_⟩ := bx_cl (evs := []) (fvs := []) hseg (by decide +kernel) (by decide +kernel)
  have hinv : rxI172_4 S0 ws S (r 8) (r 9) (r 10) := hinv
  rw [← hr_ 8 (by decide), ← hr_ 9 (by decide), ← hr_ 10 (by decide)] at hinv
  obtain ⟨⟨l8, u8⟩, ⟨l9, u9⟩, ⟨l10, u10⟩, -⟩ := b_
  have w_ := d_
  subst w_
  have g := rxd172_4_0 hP hin hsm_ I0 I1 hinv l8 u8 l9 u9 l10 u10
  refine ⟨bx_narP_ok (l := []) g.1, ?_⟩
  show rxPS172 S0 ws S' (some (bx_num r' (.inr (0, (10, 0)))))
  rw [bx_xv_ok h0_]
  exact g.2
theorem rxd172_6_0 {S0 : Nat → Int → Int} {ws : List Int} {S : Nat → Int → Int} {fa tb res : Int} (hP : rxP172 S0 ws) (hin : bx_same rxL (bx_mdl rxC172.2.2.1) S0 S) (hin2 : bx_same rxL (bx_mdl rxC172.2.2.1) S (bx_up S 0 8 0)) (I0 : bx_Inv rxL S) (I1 : bx_Inv rxL (bx_up S 0 8 0)) (hinv : rxI172_6 S0 ws S fa tb res) (l8 : 0 ≤ fa) (u8 : fa ≤ 23) (l9 : 1 ≤ tb) (u9 : tb ≤ 24) (l10 : (-1) ≤ res) (u10 : res ≤ 5) : (True) ∧ rxPS172 S0 ws (bx_up S 0 8 0) (some res) := by
  obtain ⟨⟨x, y, e1, hq⟩, h1, hw⟩ := hinv
  rcases hq with ⟨g1, g2⟩ | ⟨g1, g2, g3, g4, g5⟩
  · exfalso; omega
  · refine ⟨trivial, fa, tb, hw, Or.inr (Or.inr ⟨by omega, by omega, by omega, by omega, by omega, g2, (bx_up_ne (by omega)).trans g3, (bx_up_ne (by omega)).trans g4, (bx_up_ne (by omega)).trans g5⟩)⟩
theorem rxf172_6_0 {X : (Nat → Int → Int) → Prop} {S0 : Nat → Int → Int} {ws : List Int} (hP : rxP172 S0 ws) : bx_obE rxL X S0 rxC172.2.2.1 (rxI172 S0 ws) (rxPS172 S0 ws) 6 rxz172_6 rxe172_6_0 := by
  intro S S' r r' hinv hX hin hsm_ hseg
  obtain ⟨I0, I1, h0_, hr_, b_, f_, d_⟩ := bx_cl (evs := [(1, (0, 0), (0, 8), .inr (0, (0, 0)))]) (fvs := []) hseg (by decide +kernel) (by decide +kernel)
  have hinv : rxI172_6 S0 ws S (r 8) (r 9) (r 10) := hinv
  rw [← hr_ 8 (by decide), ← hr_ 9 (by decide), ← hr_ 10 (by decide)] at hinv
  obtain ⟨⟨l8, u8⟩, ⟨l9, u9⟩, ⟨l10, u10⟩, -⟩ := b_
  obtain ⟨T0, w_, w0⟩ := d_
  subst w0
  subst w_
  have g := rxd172_6_0 hP hin hsm_ I0 I1 hinv l8 u8 l9 u9 l10 u10
  refine ⟨bx_narP_ok (l := []) g.1, ?_⟩
  show rxPS172 S0 ws (bx_up T0 0 (8) (0)) (some (bx_num r' (.inr (0, (10, 0)))))
  rw [bx_xv_ok h0_]
  exact g.2
theorem rxgC172 {X : (Nat → Int → Int) → Prop} {S0 : Nat → Int → Int} {ws : List Int} (hP : rxP172 S0 ws) : bx_allI (fun i q => rxU172 q = true ∨ bx_allP (fun o => bx_obC rxL X S0 rxC172.2.2.1 (rxI172 S0 ws) (rxm172 S0 ws) i q.1 o) q.2.1) 0 rxY172 := ⟨Or.inr ⟨rxg172_0_0 hP, rxg172_0_1 hP, rxg172_0_2 hP, rxg172_0_3 hP, rxg172_0_4 hP, rxg172_0_5 hP, trivial⟩, Or.inl rfl, Or.inr trivial, Or.inl rfl, Or.inr trivial, Or.inl rfl, Or.inr trivial, trivial⟩
theorem rxgE172 {X : (Nat → Int → Int) → Prop} {S0 : Nat → Int → Int} {ws : List Int} (hP : rxP172 S0 ws) : bx_allI (fun i q => rxU172 q = true ∨ bx_allP (fun E => bx_obE rxL X S0 rxC172.2.2.1 (rxI172 S0 ws) (rxPS172 S0 ws) i q.1 E) q.2.2) 0 rxY172 := ⟨Or.inr trivial, Or.inl rfl, Or.inr ⟨rxf172_2_0 hP, trivial⟩, Or.inl rfl, Or.inr ⟨rxf172_4_0 hP, trivial⟩, Or.inl rfl, Or.inr ⟨rxf172_6_0 hP, trivial⟩, trivial⟩
theorem rxu172 {PX : State → Prop} {Dg : va_G} {A : Nat → Prop} {ad xa : Nat → Nat} {l : Launch} {X : (Nat → Int → Int) → Prop} (hPX : rx_PXOK rxNW A PX) (hX : ∀ S S1 : Nat → Int → Int, X S → bx_same rxL (bx_mdl rxC172.2.2.1) S S1 → X S1) (hQ110 : bx_ConP rxG rxNW rxAO PX Dg rxL X vwCl A ad l rxM110 rxC110 rxP110 rxPS110) (hQ111 : bx_ConP rxG rxNW rxAO PX Dg rxL X vwCl A ad l rxM111 rxC111 rxP111 rxPS111) {S0 : Nat → Int → Int} {ws : List Int} (hP : rxP172 S0 ws) : ∀ (i : Nat) (q : bx_HE), rxY172[i]? = some q → rxU172 q = true → ∀ {p : Program} {e : Env} {R : Room} {s : State} {m : MethodId} {args : Array Value} {below : List Frame} {meth : Method} {c : Code} {Q : State → Prop} {H0 : Heap}, rx_Fr rxG rxNW rxAO PX p s m args meth c rxM172 → (∀ q, H0.size ≤ q → A q) → H0 = s.heap → rxM172.2.2.2.2.2.2.1 ≤ R.cells → rxM172.2.2.2.2.2.2.2 ≤ R.slots → rxC172.2.2.2.1 ≤ R.frames → rxC172.2.2.2.1 * 40 ≤ R.locals → bx_Step p l e R s m args below meth c Q Dg rxL X vwCl A xa H0 ad rxM172 rxY172 (rxI172 S0 ws) (rxm172 S0 ws) S0 rxC172.2.2.1 i q := by
  intro i q hq hus p e R s m args below meth c Q H0 hF hA hH0 hmc hms hd hdl
  match i, hq with
  | 0, hq =>
    cases hq
    exact absurd (show false = true from hus) Bool.false_ne_true
  | 1, hq =>
    cases hq
    exact rx_stepC (ins := .invokevirtual 110) (len := 3) (i' := 2) (M' := rxM110) (d := rxC172.2.2.2.1) (as := [.inr (3, (0, 0)), .inr (0, (0, (-1)))]) (t := []) (ct := rxC110) hPX hF rfl hA hH0 hmc hms hd hdl (by decide +kernel) rfl rfl (by decide +kernel) (by decide +kernel) hQ110 (by decide +kernel) rfl (Or.inr ⟨_, _, _, 1, rfl, rfl, by omega, rfl, rfl, rfl⟩) (rxs172_1 hP)
  | 2, hq =>
    cases hq
    exact absurd (show false = true from hus) Bool.false_ne_true
  | 3, hq =>
    cases hq
    exact rx_stepC (ins := .invokevirtual 110) (len := 3) (i' := 4) (M' := rxM110) (d := rxC172.2.2.2.1) (as := [.inr (3, (0, 0)), .inr (0, (0, (-5)))]) (t := []) (ct := rxC110) hPX hF rfl hA hH0 hmc hms hd hdl (by decide +kernel) rfl rfl (by decide +kernel) (by decide +kernel) hQ110 (by decide +kernel) rfl (Or.inr ⟨_, _, _, 1, rfl, rfl, by omega, rfl, rfl, rfl⟩) (rxs172_3 hP)
  | 4, hq =>
    cases hq
    exact absurd (show false = true from hus) Bool.false_ne_true
  | 5, hq =>
    cases hq
    exact rx_stepC (ins := .invokevirtual 117) (len := 3) (i' := 6) (M' := rxM111) (d := rxC172.2.2.2.1) (as := [.inr (3, (0, 1)), .inr (0, (8, 0)), .inr (0, (9, 0))]) (t := [.inr (3, (0, 0))]) (ct := rxC111) hPX hF rfl hA hH0 hmc hms hd hdl (by decide +kernel) rfl rfl (by decide +kernel) (by decide +kernel) hQ111 (by decide +kernel) rfl (Or.inr ⟨_, _, _, 1, rfl, rfl, by omega, rfl, rfl, rfl⟩) (rxs172_5 hP)
  | 6, hq =>
    cases hq
    exact absurd (show false = true from hus) Bool.false_ne_true
  | n + 7, hq => cases hq
theorem rxQ172 {PX : State → Prop} {Dg : va_G} {A : Nat → Prop} {ad xa : Nat → Nat} {l : Launch} {X : (Nat → Int → Int) → Prop} (hPX : rx_PXOK rxNW A PX) (hsl : ∀ s : State, PX s → ∀ o idx n : Nat, rxSl o idx = some n → ∃ tx : String, vk_R (rxNm o) idx tx (ad n) s)
    (hX : ∀ S S' : Nat → Int → Int, X S → bx_same rxL (bx_mdl rxC172.2.2.1) S S' → X S')
    (ih : ∀ (j2 : Nat) (ct2 : bx_Ct) (M2 : rx_Mt), ct2 ∈ rxCnE j2 → ct2.2.2.2.1 + 1 ≤ rxC172.2.2.2.1 → rxT.2.2.2.2.2 j2 = some M2 → bx_Con rxG rxNW rxAO PX Dg rxL X vwCl A ad l M2 ct2) (hQ110 : bx_ConP rxG rxNW rxAO PX Dg rxL X vwCl A ad l rxM110 rxC110 rxP110 rxPS110) (hQ111 : bx_ConP rxG rxNW rxAO PX Dg rxL X vwCl A ad l rxM111 rxC111 rxP111 rxPS111) : bx_ConP rxG rxNW rxAO PX Dg rxL X vwCl A ad l rxM172 rxC172 rxP172 rxPS172 :=
  rxQof (xa := xa) (Cn := rxCnE) (f := 30000) (j := 172) (tab := rxY172) (us := rxU172) hPX hsl hX ih rfl rxYc172 rxI172 rxm172
    (fun S0 ws r I0 I ht0 ht as he he1 hX0 hI0 hP hs ha => by
      have e := he.symm.trans (show bx_ent0 rxNP rxC172.1 bx_I0 [] = some ([(0, 0), (0, 0), (0, 0), (0, 0), (0, 0), (0, 0), (0, 0), (0, 0), ((-2147483648), 2147483647), ((-2147483648), 2147483647)], [], [.inr (3, (0, 0)), .inr (0, (8, 0)), .inr (0, (9, 0))]) from rfl)
      cases e
      subst ha
      have h0 : r 0 = 0 := hs.1
      show rxI172_0 S0 _ S0 (r 8) (r 9)
      refine ⟨rfl, ?_⟩
      simp only [List.map_cons, List.map_nil, bx_xv_ok h0]
      rfl)
    (fun S0 ws hP => rxu172 (xa := xa) hPX hX hQ110 hQ111 hP) (fun S0 ws hP => rxgC172 hP) (fun S0 ws hP => rxgE172 hP)
set_option maxHeartbeats 1000000 in
theorem rzQ172 {PX : State → Prop} {Dg : va_G} {A : Nat → Prop} {ad : Nat → Nat} {l : Launch} (hPX : rx_PXOK rxNW A PX) (hsl : ∀ s : State, PX s → ∀ o idx n : Nat, rxSl o idx = some n → ∃ tx : String, vk_R (rxNm o) idx tx (ad n) s) (ih : ∀ (j : Nat) (ct : bx_Ct) (M : rx_Mt), ct ∈ rxCn j → rxT.2.2.2.2.2 j = some M → bx_Con rxG rxNW rxAO PX Dg rxL rxX vwCl A ad l M ct) : bx_ConP rxG rxNW rxAO PX Dg rxL rxX vwCl A ad l rxM172 rxC172 (fun _ _ => True) rxPS172 := by
  have q110 := rxQ110 (PX := PX) (Dg := Dg) (A := A) (ad := ad) (xa := fun n => n) (l := l) (X := rxX) hPX hsl (fun _ _ h hm => rxX_of (by decide +kernel) h hm) (fun _ _ _ h => absurd h List.not_mem_nil)
  have q111 := rxQ111 (PX := PX) (Dg := Dg) (A := A) (ad := ad) (xa := fun n => n) (l := l) (X := rxX) hPX hsl (fun _ _ h hm => rxX_of (by decide +kernel) h hm) (fun j2 ct2 M2 hc hd hM => ih j2 ct2 M2 hc hM)
  have q172 := rxQ172 (PX := PX) (Dg := Dg) (A := A) (ad := ad) (xa := fun n => n) (l := l) (X := rxX) hPX hsl (fun _ _ h hm => rxX_of (by decide +kernel) h hm) (fun _ _ _ h => absurd h List.not_mem_nil) q110 q111
  exact fun S0 ws h1 h2 h3 _ => q172 S0 ws h1 h2 h3 trivial
