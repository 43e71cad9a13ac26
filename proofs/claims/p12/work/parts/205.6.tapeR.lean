/-! CONTRACT BY HAND, by program (wip/sim/genhand.py): DeadUnderstudiesModel.end -/
def rxI234_0 (S0 : Nat → Int → Int) (ws : List Int) (S : Nat → Int → Int) (m : Int) : Prop := S = S0 ∧ ws = [480, m]
def rxm234_0 (S0 : Nat → Int → Int) (ws : List Int) (S : Nat → Int → Int) (m : Int) : Nat := 100
def rxz234_0 : rx_Z := ([(0, 0), (0, 0), (0, 0), (0, 0), (0, 0), (0, 0), (0, 0), (0, 0), ((-2147483648), 2147483647)], [], [], 0, 0, 0, [(0, .inr (3, (0, 480))), (1, .inr (0, (8, 0)))], [])
def rxe234_0_0 : rx_End × List (Nat × Int × Int) := (([(0, 0), (0, 0), (0, 0), (0, 0), (0, 0), (0, 0), (0, 0), (0, 0), (1, 2147483647), (0, 400)], [(0, (9, 0), (8, 0))], [(((0, 0), 1851192626986356799029993984671224184301589730656725206267068416000000), .inr (0, (9, 0))), (((0, 480), 8), .inr (0, (9, 0))), (((0, 0), 1851192626986356797424340330377019318111018015026043177836478467000000), .inr (0, (0, 0))), (((0, 480), 0), .inr (0, (0, 0)))], some (.inr (0, (0, (-1))))), [])
def rxe234_0_1 : rx_End × List (Nat × Int × Int) := (([(0, 0), (0, 0), (0, 0), (0, 0), (0, 0), (0, 0), (0, 0), (0, 0), (0, 400), (0, 400)], [(1, (8, 0), (9, 0))], [(((0, 0), 1851192626986356799029993984671224184301589730656725206267068419000000), .inr (0, (8, 0))), (((0, 480), 8), .inr (0, (8, 0))), (((0, 0), 1851192626986356799029993984671224184301589730656725206267068416000000), .inr (0, (9, 0))), (((0, 0), 1851192626986356797424340330377019318111018015026043177836478467000000), .inr (0, (0, 0))), (((0, 480), 0), .inr (0, (0, 0)))], some (.inr (0, (8, 0)))), [])
def rxe234_0_2 : rx_End × List (Nat × Int × Int) := (([(0, 0), (0, 0), (0, 0), (0, 0), (0, 0), (0, 0), (0, 0), (0, 0), ((-2147483648), (-1))], [], [(((0, 0), 1851192626986356797424340330377019318111018015026043177836478467000000), .inr (0, (0, 0))), (((0, 480), 0), .inr (0, (0, 0)))], some (.inr (0, (0, (-1))))), [])
def rxY234 : List bx_HE := [(rxz234_0, [], [rxe234_0_0, rxe234_0_1, rxe234_0_2])]
def rxU234 (q : bx_HE) : Bool := false
def rxYB234 : bx_B := (rxV, rxNP, rxDmf, bx_mdH rxC234.2.2.1)
set_option maxRecDepth 100000 in
theorem rxYc234 : bx_chkH rxYB234 rxM234 rxC234 rxY234 (rxU234, fun cut z => rx_ex2 (rxCT rxYB234 rxCnE) cut 30000 rxC234.2.2.2.1 234 z) = true := by decide +kernel
def rxI234 (S0 : Nat → Int → Int) (ws : List Int) (i : Nat) : bx_SP := fun S r => match i with | 0 => rxI234_0 S0 ws S (r 8) | _ => False
def rxm234 (S0 : Nat → Int → Int) (ws : List Int) (i : Nat) (S : Nat → Int → Int) (r : Nat → Int) : Nat := match i with | 0 => rxm234_0 S0 ws S (r 8) | _ => 0
def rxP234 (S0 : Nat → Int → Int) (ws : List Int) : Prop := True
def rxPS234 (S0 : Nat → Int → Int) (ws : List Int) (S : Nat → Int → Int) (w : Option Int) : Prop := ∃ m : Int, ws = [480, m] ∧ (((m < 0 ∨ S0 480 8 < m) ∧ w = some (-1) ∧ (∀ j : Int, S 482 j = S0 482 j) ∧ S 480 8 = S0 480 8) ∨ (0 ≤ m ∧ m ≤ S0 480 8 ∧ w = some m ∧ S 480 8 = m))
theorem rxd234_0_0 {S0 : Nat → Int → Int} {ws : List Int} {S : Nat → Int → Int} {m x9 : Int} (hP : rxP234 S0 ws) (hin : bx_same rxL (bx_mdl rxC234.2.2.1) S0 S) (hin2 : bx_same rxL (bx_mdl rxC234.2.2.1) S (bx_up S 480 0 0)) (I0 : bx_Inv rxL S) (I1 : bx_Inv rxL (bx_up S 480 0 0)) (hinv : rxI234_0 S0 ws S m) (l8 : 1 ≤ m) (u8 : m ≤ 2147483647) (l9 : 0 ≤ x9) (u9 : x9 ≤ 400) (f0 : x9 < m) (e0 : (bx_up S 480 0 0) 480 8 = x9) : (True) ∧ rxPS234 S0 ws (bx_up S 480 0 0) (some ((-1))) := by
  obtain ⟨rfl, hw⟩ := hinv
  have e0 := (show _ = S 480 8 from (bx_up_ne (by omega))).symm.trans e0
  refine ⟨trivial, m, hw, Or.inl (⟨?_, ?_, fun j => (bx_up_ne (by omega)), (bx_up_ne (by omega))⟩)⟩ <;> first | omega | exact hin2 | exact congrArg some (by omega) | (intro i i0 i1; simp only [bx_up]; (repeat' split) <;> first | rfl | omega | (simp_all; done) | (simp_all; omega)) | ((repeat (first | rw [bx_up_at] | rw [bx_up_ne (by omega)])); omega) | exact True.intro
theorem rxf234_0_0 {X : (Nat → Int → Int) → Prop} {S0 : Nat → Int → Int} {ws : List Int} (hP : rxP234 S0 ws) : bx_obE rxL X S0 rxC234.2.2.1 (rxI234 S0 ws) (rxPS234 S0 ws) 0 rxz234_0 rxe234_0_0 := by
  intro S S' r r' hinv hX hin hsm_ hseg
  obtain ⟨I0, I1, h0_, hr_, b_, f_, d_⟩ := bx_cl (evs := [(0, (0, 480), (0, 8), .inr (0, (9, 0))), (1, (0, 480), (0, 0), .inr (0, (0, 0)))]) (fvs := [(0, (9, 0), (8, 0), (0, 0))]) hseg (by decide +kernel) (by decide +kernel)
  have hinv : rxI234_0 S0 ws S (r 8) := hinv
  rw [← hr_ 8 (by decide)] at hinv
  obtain ⟨⟨l8, u8⟩, ⟨l9, u9⟩, -⟩ := b_
  obtain ⟨f0, -⟩ := f_
  obtain ⟨e0, ⟨T1, w_, w1⟩⟩ := d_
  subst w1
  subst w_
  have g := rxd234_0_0 hP hin hsm_ I0 I1 hinv l8 u8 l9 u9 f0 e0
  refine ⟨bx_narP_ok (l := []) g.1, ?_⟩
  show rxPS234 S0 ws (bx_up T1 480 (0) (0)) (some (bx_num r' (.inr (0, (0, (-1))))))
  rw [bx_xv_ok h0_]
  exact g.2
theorem rxd234_0_1 {S0 : Nat → Int → Int} {ws : List Int} {S : Nat → Int → Int} {m x9 : Int} (hP : rxP234 S0 ws) (hin : bx_same rxL (bx_mdl rxC234.2.2.1) S0 S) (hin2 : bx_same rxL (bx_mdl rxC234.2.2.1) S (bx_up (bx_up S 480 0 0) 480 8 m)) (I0 : bx_Inv rxL S) (I1 : bx_Inv rxL (bx_up (bx_up S 480 0 0) 480 8 m)) (hinv : rxI234_0 S0 ws S m) (l8 : 0 ≤ m) (u8 : m ≤ 400) (l9 : 0 ≤ x9) (u9 : x9 ≤ 400) (f0 : m ≤ x9) (e1 : (bx_up S 480 0 0) 480 8 = x9) : (True) ∧ rxPS234 S0 ws (bx_up (bx_up S 480 0 0) 480 8 m) (some m) := by
  obtain ⟨rfl, hw⟩ := hinv
  have e1 := (show _ = S 480 8 from (bx_up_ne (by omega))).symm.trans e1
  refine ⟨trivial, m, hw, Or.inr (⟨?_, ?_, ?_, (bx_up_at).trans (by omega)⟩)⟩ <;> first | omega | exact hin2 | exact congrArg some (by omega) | (intro i i0 i1; simp only [bx_up]; (repeat' split) <;> first | rfl | omega | (simp_all; done) | (simp_all; omega)) | ((repeat (first | rw [bx_up_at] | rw [bx_up_ne (by omega)])); omega) | exact True.intro
theorem rxf234_0_1 {X : (Nat → Int → Int) → Prop} {S0 : Nat → Int → Int} {ws : List Int} (hP : rxP234 S0 ws) : bx_obE rxL X S0 rxC234.2.2.1 (rxI234 S0 ws) (rxPS234 S0 ws) 0 rxz234_0 rxe234_0_1 := by
  intro S S' r r' hinv hX hin hsm_ hseg
  obtain ⟨I0, I1, h0_, hr_, b_, f_, d_⟩ := bx_cl (evs := [(1, (0, 480), (0, 8), .inr (0, (8, 0))), (0, (0, 480), (0, 8), .inr (0, (9, 0))), (1, (0, 480), (0, 0), .inr (0, (0, 0)))]) (fvs := [(1, (8, 0), (9, 0), (0, 0))]) hseg (by decide +kernel) (by decide +kernel)
  have hinv : rxI234_0 S0 ws S (r 8) := hinv
  rw [← hr_ 8 (by decide)] at hinv
  obtain ⟨⟨l8, u8⟩, ⟨l9, u9⟩, -⟩ := b_
  obtain ⟨f0, -⟩ := f_
  obtain ⟨T0, ⟨e1, ⟨T2, w_, w2⟩⟩, w0⟩ := d_
  subst w0
  subst w2
  subst w_
  have g := rxd234_0_1 hP hin hsm_ I0 I1 hinv l8 u8 l9 u9 f0 e1
  refine ⟨bx_narP_ok (l := []) g.1, ?_⟩
  show rxPS234 S0 ws (bx_up (bx_up T2 480 (0) (0)) 480 (8) (r' 8)) (some (bx_num r' (.inr (0, (8, 0)))))
  rw [bx_xv_ok h0_]
  exact g.2
theorem rxd234_0_2 {S0 : Nat → Int → Int} {ws : List Int} {S : Nat → Int → Int} {m : Int} (hP : rxP234 S0 ws) (hin : bx_same rxL (bx_mdl rxC234.2.2.1) S0 S) (hin2 : bx_same rxL (bx_mdl rxC234.2.2.1) S (bx_up S 480 0 0)) (I0 : bx_Inv rxL S) (I1 : bx_Inv rxL (bx_up S 480 0 0)) (hinv : rxI234_0 S0 ws S m) (l8 : (-2147483648) ≤ m) (u8 : m ≤ (-1)) : (True) ∧ rxPS234 S0 ws (bx_up S 480 0 0) (some ((-1))) := by
  obtain ⟨rfl, hw⟩ := hinv
  refine ⟨trivial, m, hw, Or.inl (⟨?_, ?_, fun j => (bx_up_ne (by omega)), (bx_up_ne (by omega))⟩)⟩ <;> first | omega | exact hin2 | exact congrArg some (by omega) | (intro i i0 i1; simp only [bx_up]; (repeat' split) <;> first | rfl | omega | (simp_all; done) | (simp_all; omega)) | ((repeat (first | rw [bx_up_at] | rw [bx_up_ne (by omega)])); omega) | exact True.intro
theorem rxf234_0_2 {X : (Nat → Int → Int) → Prop} {S0 : Nat → Int → Int} {ws : List Int} (hP : rxP234 S0 ws) : bx_obE rxL X S0 rxC234.2.2.1 (rxI234 S0 ws) (rxPS234 S0 ws) 0 rxz234_0 rxe234_0_2 := by
  intro S S' r r' hinv hX hin hsm_ hseg
  obtain ⟨I0, I1, h0_, hr_, b_, f_, d_⟩ := bx_cl (evs := [(1, (0, 480), (0, 0), .inr (0, (0, 0)))]) (fvs := []) hseg (by decide +kernel) (by decide +kernel)
  have hinv : rxI234_0 S0 ws S (r 8) := hinv
  rw [← hr_ 8 (by decide)] at hinv
  obtain ⟨⟨l8, u8⟩, -⟩ := b_
  obtain ⟨T0, w_, w0⟩ := d_
  subst w0
  subst w_
  have g := rxd234_0_2 hP hin hsm_ I0 I1 hinv l8 u8
  refine ⟨bx_narP_ok (l := []) g.1, ?_⟩
  show rxPS234 S0 ws (bx_up T0 480 (0) (0)) (some (bx_num r' (.inr (0, (0, (-1))))))
  rw [bx_xv_ok h0_]
  exact g.2
theorem rxgC234 {X : (Nat → Int → Int) → Prop} {S0 : Nat → Int → Int} {ws : List Int} (hP : rxP234 S0 ws) : bx_allI (fun i q => rxU234 q = true ∨ bx_allP (fun o => bx_obC rxL X S0 rxC234.2.2.1 (rxI234 S0 ws) (rxm234 S0 ws) i q.1 o) q.2.1) 0 rxY234 := ⟨Or.inr trivial, trivial⟩
theorem rxgE234 {X : (Nat → Int → Int) → Prop} {S0 : Nat → Int → Int} {ws : List Int} (hP : rxP234 S0 ws) : bx_allI (fun i q => rxU234 q = true ∨ bx_allP (fun E => bx_obE rxL X S0 rxC234.2.2.1 (rxI234 S0 ws) (rxPS234 S0 ws) i q.1 E) q.2.2) 0 rxY234 := ⟨Or.inr ⟨rxf234_0_0 hP, rxf234_0_1 hP, rxf234_0_2 hP, trivial⟩, trivial⟩
theorem rxQ234 {PX : State → Prop} {Dg : va_G} {A : Nat → Prop} {ad xa : Nat → Nat} {l : Launch} {X : (Nat → Int → Int) → Prop} (hPX : rx_PXOK rxNW A PX) (hsl : ∀ s : State, PX s → ∀ o idx n : Nat, rxSl o idx = some n → ∃ tx : String, vk_R (rxNm o) idx tx (ad n) s)
    (hX : ∀ S S' : Nat → Int → Int, X S → bx_same rxL (bx_mdl rxC234.2.2.1) S S' → X S')
    (ih : ∀ (j2 : Nat) (ct2 : bx_Ct) (M2 : rx_Mt), ct2 ∈ rxCnE j2 → ct2.2.2.2.1 + 1 ≤ rxC234.2.2.2.1 → rxT.2.2.2.2.2 j2 = some M2 → bx_Con rxG rxNW rxAO PX Dg rxL X vwCl A ad l M2 ct2) : bx_ConP rxG rxNW rxAO PX Dg rxL X vwCl A ad l rxM234 rxC234 rxP234 rxPS234 :=
  rxQof (xa := xa) (Cn := rxCnE) (f := 30000) (j := 234) (tab := rxY234) (us := rxU234) hPX hsl hX ih rfl rxYc234 rxI234 rxm234
    (fun S0 ws r I0 I ht0 ht as he he1 hX0 hI0 hP hs ha => by
      have e := he.symm.trans (show bx_ent0 rxNP rxC234.1 bx_I0 [] = some ([(0, 0), (0, 0), (0, 0), (0, 0), (0, 0), (0, 0), (0, 0), (0, 0), ((-2147483648), 2147483647)], [], [.inr (3, (0, 480)), .inr (0, (8, 0))]) from rfl)
      cases e
      subst ha
      have h0 : r 0 = 0 := hs.1
      show rxI234_0 S0 _ S0 (r 8)
      refine ⟨rfl, ?_⟩
      simp only [List.map_cons, List.map_nil, bx_xv_ok h0]
      rfl)
    (fun S0 ws hP => fun i q hq hus => absurd (show false = true from hus) Bool.false_ne_true) (fun S0 ws hP => rxgC234 hP) (fun S0 ws hP => rxgE234 hP)
set_option maxHeartbeats 1000000 in
theorem rzQ234 {PX : State → Prop} {Dg : va_G} {A : Nat → Prop} {ad : Nat → Nat} {l : Launch} (hPX : rx_PXOK rxNW A PX) (hsl : ∀ s : State, PX s → ∀ o idx n : Nat, rxSl o idx = some n → ∃ tx : String, vk_R (rxNm o) idx tx (ad n) s) : bx_ConP rxG rxNW rxAO PX Dg rxL rxX vwCl A ad l rxM234 rxC234 (fun _ _ => True) rxPS234 := by
  have q234 := rxQ234 (PX := PX) (Dg := Dg) (A := A) (ad := ad) (xa := fun n => n) (l := l) (X := rxX) hPX hsl (fun _ _ h hm => rxX_of (by decide +kernel) h hm) (fun _ _ _ h => absurd h List.not_mem_nil)
  exact fun S0 ws h1 h2 h3 _ => q234 S0 ws h1 h2 h3 trivial
/-! CONTRACT BY HAND, by program (wip/sim/genhand.py): DeadUnderstudiesModel.endText -/
def rxCET2 : bx_Ct := ([(3, (1, 480, 0))], none, [(12, 8), (12, 9), (12, 10), (12, 11), (12, 12), (12, 13), (12, 14), (12, 15)], 4, [])
def rxIET2_0 (S0 : Nat → Int → Int) (ws : List Int) (S : Nat → Int → Int) : Prop := rxIET_0 S0 ws S ∧ True
def rxmET2_0 (S0 : Nat → Int → Int) (ws : List Int) (S : Nat → Int → Int) : Nat := rxmET_0 S0 ws S
def rxzET2_0 : rx_Z := ([(0, 0), (0, 0), (0, 0), (0, 0), (0, 0), (0, 0), (0, 0), (0, 0)], [], [], 0, 0, 0, [(0, .inr (3, (0, 480)))], [])
def rxIET2_1 (S0 : Nat → Int → Int) (ws : List Int) (S : Nat → Int → Int) : Prop := rxIET_1 S0 ws S ∧ True
def rxmET2_1 (S0 : Nat → Int → Int) (ws : List Int) (S : Nat → Int → Int) : Nat := rxmET_1 S0 ws S
def rxzET2_1 : rx_Z := ([(0, 0), (0, 0), (0, 0), (0, 0), (0, 0), (0, 0), (0, 0), (0, 0)], [], [], 0, 0, 16, [(0, .inr (3, (0, 480)))], [.inr (0, (0, 0)), .inr (3, (0, 480))])
def rxIET2_2 (S0 : Nat → Int → Int) (ws : List Int) (S : Nat → Int → Int) : Prop := rxIET_2 S0 ws S ∧ True
def rxmET2_2 (S0 : Nat → Int → Int) (ws : List Int) (S : Nat → Int → Int) : Nat := rxmET_2 S0 ws S
def rxzET2_2 : rx_Z := ([(0, 0), (0, 0), (0, 0), (0, 0), (0, 0), (0, 0), (0, 0), (0, 0)], [], [], 0, 0, 19, [(0, .inr (3, (0, 480)))], [])
def rxoET2_0_0 : bx_HO := (([(0, 0), (0, 0), (0, 0), (0, 0), (0, 0), (0, 0), (0, 0), (0, 0), (0, 0), (1, 3)], [(3, (9, 0), (0, 0))], [(((0, 0), 1851192626986356799632114105031551009123054124018230966928539648000000), .inr (0, (9, 0))), (((0, 480), 11), .inr (0, (9, 0))), (((0, 0), 1851192626986356800234234225391877833944518517379736727590010880000000), .inr (0, (8, 0))), (((0, 480), 14), .inr (0, (8, 0)))], 0, 0, 16, [(0, .inr (3, (0, 480)))], [.inr (0, (0, 0)), .inr (3, (0, 480))]), [], [], [(0, 0), (0, 0), (0, 0), (0, 0), (0, 0), (0, 0), (0, 0), (0, 0)], 1)
def rxeET2_0_0 : rx_End × List (Nat × Int × Int) := (([(0, 0), (0, 0), (0, 0), (0, 0), (0, 0), (0, 0), (0, 0), (0, 0), (0, 0), (0, 0)], [], [(((0, 0), 1851192626986356799029993984671224184301589730656725206267068419000000), .inr (0, (0, 0))), (((0, 480), 8), .inr (0, (0, 0))), (((0, 0), 1851192626986356800434940932178653442218339981833571981143834627000000), .inr (0, (0, 0))), (((0, 480), 15), .inr (0, (0, 0))), (((0, 0), 1851192626986356799632114105031551009123054124018230966928539648000000), .inr (0, (9, 0))), (((0, 480), 11), .inr (0, (9, 0))), (((0, 0), 1851192626986356800234234225391877833944518517379736727590010880000000), .inr (0, (8, 0))), (((0, 480), 14), .inr (0, (8, 0)))], none), [])
def rxeET2_0_1 : rx_End × List (Nat × Int × Int) := (([(0, 0), (0, 0), (0, 0), (0, 0), (0, 0), (0, 0), (0, 0), (0, 0), (1, 1)], [(3, (8, 0), (0, 0))], [(((0, 0), 1851192626986356799029993984671224184301589730656725206267068419000000), .inr (0, (0, 0))), (((0, 480), 8), .inr (0, (0, 0))), (((0, 0), 1851192626986356800434940932178653442218339981833571981143834627000000), .inr (0, (0, 0))), (((0, 480), 15), .inr (0, (0, 0))), (((0, 0), 1851192626986356800234234225391877833944518517379736727590010880000000), .inr (0, (8, 0))), (((0, 480), 14), .inr (0, (8, 0)))], none), [])
def rxeET2_2_0 : rx_End × List (Nat × Int × Int) := (([(0, 0), (0, 0), (0, 0), (0, 0), (0, 0), (0, 0), (0, 0), (0, 0)], [], [(((0, 0), 1851192626986356799029993984671224184301589730656725206267068419000000), .inr (0, (0, 0))), (((0, 480), 8), .inr (0, (0, 0))), (((0, 0), 1851192626986356800434940932178653442218339981833571981143834627000000), .inr (0, (0, 0))), (((0, 480), 15), .inr (0, (0, 0)))], none), [])
def rxYET2 : List bx_HE := [(rxzET2_0, [rxoET2_0_0], [rxeET2_0_0, rxeET2_0_1]), (rxzET2_1, [], []), (rxzET2_2, [], [rxeET2_2_0])]
def rxUET2 (q : bx_HE) : Bool := Nat.beq (rx_zpc q.1) 16
def rxYBET2 : bx_B := (rxV, rxNP, rxDmf, bx_mdH rxCET2.2.2.1)
set_option maxRecDepth 100000 in
theorem rxYcET2 : bx_chkH rxYBET2 rxM285 rxCET2 rxYET2 (rxUET2, fun cut z => rx_ex2 (rxCT rxYBET2 rxCnE) cut 30000 rxCET2.2.2.2.1 285 z) = true := by decide +kernel
def rxIET2 (S0 : Nat → Int → Int) (ws : List Int) (i : Nat) : bx_SP := fun S r => match i with | 0 => rxIET2_0 S0 ws S | 1 => rxIET2_1 S0 ws S | 2 => rxIET2_2 S0 ws S | _ => False
def rxmET2 (S0 : Nat → Int → Int) (ws : List Int) (i : Nat) (S : Nat → Int → Int) (r : Nat → Int) : Nat := match i with | 0 => rxmET2_0 S0 ws S | 1 => rxmET2_1 S0 ws S | 2 => rxmET2_2 S0 ws S | _ => 0
def rxPET2 (S0 : Nat → Int → Int) (ws : List Int) : Prop := rxPET S0 ws
def rxPSET2 (S0 : Nat → Int → Int) (ws : List Int) (S : Nat → Int → Int) (w : Option Int) : Prop := w = none ∧ rxPSET S0 ws S w ∧ (S 480 8 = 0)
theorem rxkET2_1 {S0 : Nat → Int → Int} {ws : List Int} {S : Nat → Int → Int} (hP : rxPET2 S0 ws) (hin : bx_same rxL (bx_mdl rxCET2.2.2.1) S0 S) (I0 : bx_Inv rxL S) (hinv : rxIET2_1 S0 ws S)  : rxPMU S [480, 0] ∧ ∀ (S' : Nat → Int → Int), rxPSMU S [480, 0] S' none → bx_Inv rxL S' → bx_same rxL (bx_mdl rxCMU.2.2.1) S S' → rxIET2_2 S0 ws S' ∧ rxmET2_2 S0 ws S' < rxmET2_1 S0 ws S := by
  obtain ⟨hI, hx⟩ := hinv
  have g_ := rxkET_1 hP hin I0 hI
  exact ⟨g_.1, fun S' hq I1 hsm => ⟨⟨(g_.2 S' hq I1 hsm).1, trivial⟩, (g_.2 S' hq I1 hsm).2⟩⟩
theorem rxsET2_1 {X : (Nat → Int → Int) → Prop} {S0 : Nat → Int → Int} {ws : List Int} (hP : rxPET2 S0 ws) : rx_obK X S0 rxCET2.2.2.1 rxCMU.2.2.1 (rxIET2 S0 ws) (rxmET2 S0 ws) 1 2 rxzET2_1 rxzET2_2 [.inr (3, (0, 480)), .inr (0, (0, 0))] none rxPMU rxPSMU := by
  intro S r hinv hXS I0 hin hs_ hf_
  have b_ := bx_bds_sat hs_
  have f_ := bx_fcl_ok hs_.1 hf_
  have g := rxkET2_1 hP hin I0 hinv 
  have ea : List.map (bx_num r) [.inr (3, (0, 480)), .inr (0, (0, 0))] = [480, 0] := by
    simp only [List.map_cons, List.map_nil, bx_xv_ok hs_.1]
    rfl
  rw [ea]
  refine ⟨g.1, fun S' w r' hPS hX' I1 hsm hr hw hs' => ?_⟩
  have hw : w = none := hPS.1
  subst hw
  have g2 := g.2 S' hPS I1 hsm
  show rxIET2_2 S0 ws S' ∧ rxmET2_2 S0 ws S' < _
  exact g2
theorem rxcET2_0_0 {S0 : Nat → Int → Int} {ws : List Int} {S : Nat → Int → Int} {x8 x9 : Int} (hP : rxPET2 S0 ws) (hin : bx_same rxL (bx_mdl rxCET2.2.2.1) S0 S) (I0 : bx_Inv rxL S) (hinv : rxIET2_0 S0 ws S) (l8 : 0 ≤ x8) (u8 : x8 ≤ 0) (l9 : 1 ≤ x9) (u9 : x9 ≤ 3) (f0 : x9 ≠ 0) (e1 : S 480 14 = x8) (e0 : S 480 11 = x9) : (True) ∧ (True) ∧ rxIET2_1 S0 ws S ∧ rxmET2_1 S0 ws S < rxmET2_0 S0 ws S := by
  obtain ⟨hI, hx⟩ := hinv
  obtain ⟨a_, b_, c_, d_⟩ := rxcET_0_0 hP hin I0 hI l8 u8 l9 u9 f0 e1 e0
  exact ⟨a_, b_, ⟨c_, trivial⟩, d_⟩
theorem rxgET2_0_0 {X : (Nat → Int → Int) → Prop} {S0 : Nat → Int → Int} {ws : List Int} (hP : rxPET2 S0 ws) : bx_obC rxL X S0 rxCET2.2.2.1 (rxIET2 S0 ws) (rxmET2 S0 ws) 0 rxzET2_0 rxoET2_0_0 := by
  intro S S' r r' hinv hX hin hsm_ hseg
  obtain ⟨I0, I1, h0_, hr_, b_, f_, d_⟩ := bx_cl (evs := [(0, (0, 480), (0, 11), .inr (0, (9, 0))), (0, (0, 480), (0, 14), .inr (0, (8, 0)))]) (fvs := [(3, (9, 0), (0, 0), (0, 0))]) hseg (by decide +kernel) (by decide +kernel)
  have hinv : rxIET2_0 S0 ws S := hinv
  obtain ⟨⟨l8, u8⟩, ⟨l9, u9⟩, -⟩ := b_
  obtain ⟨f0, -⟩ := f_
  obtain ⟨e0, ⟨e1, w_⟩⟩ := d_
  subst w_
  have g := rxcET2_0_0 hP hin I0 hinv l8 u8 l9 u9 f0 e1 e0
  refine ⟨bx_narP_ok (l := []) g.1, bx_nfP_ok h0_ (fvs := []) (by decide +kernel) g.2.1, ?_, ?_⟩
  · show rxIET2_1 S0 ws S'
    exact g.2.2.1
  · show rxmET2_1 S0 ws S' < rxmET2_0 S0 ws S'
    exact g.2.2.2
theorem rxdET2_0_0 {S0 : Nat → Int → Int} {ws : List Int} {S : Nat → Int → Int} {x8 x9 : Int} (hP : rxPET2 S0 ws) (hin : bx_same rxL (bx_mdl rxCET2.2.2.1) S0 S) (hin2 : bx_same rxL (bx_mdl rxCET2.2.2.1) S (bx_up (bx_up S 480 15 0) 480 8 0)) (I0 : bx_Inv rxL S) (I1 : bx_Inv rxL (bx_up (bx_up S 480 15 0) 480 8 0)) (hinv : rxIET2_0 S0 ws S) (l8 : 0 ≤ x8) (u8 : x8 ≤ 0) (l9 : 0 ≤ x9) (u9 : x9 ≤ 0) (e3 : S 480 14 = x8) (e2 : S 480 11 = x9) : (True) ∧ rxPSET2 S0 ws (bx_up (bx_up S 480 15 0) 480 8 0) none := by
  obtain ⟨hI, hx⟩ := hinv
  obtain ⟨a_, c_⟩ := rxdET_0_0 hP hin hin2 I0 I1 hI l8 u8 l9 u9 e3 e2
  exact ⟨a_, rfl, c_, bx_up_at⟩
theorem rxfET2_0_0 {X : (Nat → Int → Int) → Prop} {S0 : Nat → Int → Int} {ws : List Int} (hP : rxPET2 S0 ws) : bx_obE rxL X S0 rxCET2.2.2.1 (rxIET2 S0 ws) (rxPSET2 S0 ws) 0 rxzET2_0 rxeET2_0_0 := by
  intro S S' r r' hinv hX hin hsm_ hseg
  obtain ⟨I0, I1, h0_, hr_, b_, f_, d_⟩ := bx_cl (evs := [(1, (0, 480), (0, 8), .inr (0, (0, 0))), (1, (0, 480), (0, 15), .inr (0, (0, 0))), (0, (0, 480), (0, 11), .inr (0, (9, 0))), (0, (0, 480), (0, 14), .inr (0, (8, 0)))]) (fvs := []) hseg (by decide +kernel) (by decide +kernel)
  have hinv : rxIET2_0 S0 ws S := hinv
  obtain ⟨⟨l8, u8⟩, ⟨l9, u9⟩, -⟩ := b_
  obtain ⟨T0, ⟨T1, ⟨e2, ⟨e3, w_⟩⟩, w1⟩, w0⟩ := d_
  subst w0
  subst w1
  subst w_
  have g := rxdET2_0_0 hP hin hsm_ I0 I1 hinv l8 u8 l9 u9 e3 e2
  refine ⟨bx_narP_ok (l := []) g.1, ?_⟩
  exact g.2
theorem rxdET2_0_1 {S0 : Nat → Int → Int} {ws : List Int} {S : Nat → Int → Int} {x8 : Int} (hP : rxPET2 S0 ws) (hin : bx_same rxL (bx_mdl rxCET2.2.2.1) S0 S) (hin2 : bx_same rxL (bx_mdl rxCET2.2.2.1) S (bx_up (bx_up S 480 15 0) 480 8 0)) (I0 : bx_Inv rxL S) (I1 : bx_Inv rxL (bx_up (bx_up S 480 15 0) 480 8 0)) (hinv : rxIET2_0 S0 ws S) (l8 : 1 ≤ x8) (u8 : x8 ≤ 1) (f0 : x8 ≠ 0) (e2 : S 480 14 = x8) : (True) ∧ rxPSET2 S0 ws (bx_up (bx_up S 480 15 0) 480 8 0) none := by
  obtain ⟨hI, hx⟩ := hinv
  obtain ⟨a_, c_⟩ := rxdET_0_1 hP hin hin2 I0 I1 hI l8 u8 f0 e2
  exact ⟨a_, rfl, c_, bx_up_at⟩
theorem rxfET2_0_1 {X : (Nat → Int → Int) → Prop} {S0 : Nat → Int → Int} {ws : List Int} (hP : rxPET2 S0 ws) : bx_obE rxL X S0 rxCET2.2.2.1 (rxIET2 S0 ws) (rxPSET2 S0 ws) 0 rxzET2_0 rxeET2_0_1 := by
  intro S S' r r' hinv hX hin hsm_ hseg
  obtain ⟨I0, I1, h0_, hr_, b_, f_, d_⟩ := bx_cl (evs := [(1, (0, 480), (0, 8), .inr (0, (0, 0))), (1, (0, 480), (0, 15), .inr (0, (0, 0))), (0, (0, 480), (0, 14), .inr (0, (8, 0)))]) (fvs := [(3, (8, 0), (0, 0), (0, 0))]) hseg (by decide +kernel) (by decide +kernel)
  have hinv : rxIET2_0 S0 ws S := hinv
  obtain ⟨⟨l8, u8⟩, -⟩ := b_
  obtain ⟨f0, -⟩ := f_
  obtain ⟨T0, ⟨T1, ⟨e2, w_⟩, w1⟩, w0⟩ := d_
  subst w0
  subst w1
  subst w_
  have g := rxdET2_0_1 hP hin hsm_ I0 I1 hinv l8 u8 f0 e2
  refine ⟨bx_narP_ok (l := []) g.1, ?_⟩
  exact g.2
theorem rxdET2_2_0 {S0 : Nat → Int → Int} {ws : List Int} {S : Nat → Int → Int} (hP : rxPET2 S0 ws) (hin : bx_same rxL (bx_mdl rxCET2.2.2.1) S0 S) (hin2 : bx_same rxL (bx_mdl rxCET2.2.2.1) S (bx_up (bx_up S 480 15 0) 480 8 0)) (I0 : bx_Inv rxL S) (I1 : bx_Inv rxL (bx_up (bx_up S 480 15 0) 480 8 0)) (hinv : rxIET2_2 S0 ws S)  : (True) ∧ rxPSET2 S0 ws (bx_up (bx_up S 480 15 0) 480 8 0) none := by
  obtain ⟨hI, hx⟩ := hinv
  obtain ⟨a_, c_⟩ := rxdET_2_0 hP hin hin2 I0 I1 hI
  exact ⟨a_, rfl, c_, bx_up_at⟩
theorem rxfET2_2_0 {X : (Nat → Int → Int) → Prop} {S0 : Nat → Int → Int} {ws : List Int} (hP : rxPET2 S0 ws) : bx_obE rxL X S0 rxCET2.2.2.1 (rxIET2 S0 ws) (rxPSET2 S0 ws) 2 rxzET2_2 rxeET2_2_0 := by
  intro S S' r r' hinv hX hin hsm_ hseg
  obtain ⟨I0, I1, h0_, hr_, b_, f_, d_⟩ := bx_cl (evs := [(1, (0, 480), (0, 8), .inr (0, (0, 0))), (1, (0, 480), (0, 15), .inr (0, (0, 0)))]) (fvs := []) hseg (by decide +kernel) (by decide +kernel)
  have hinv : rxIET2_2 S0 ws S := hinv
  obtain ⟨T0, ⟨T1, w_, w1⟩, w0⟩ := d_
  subst w0
  subst w1
  subst w_
  have g := rxdET2_2_0 hP hin hsm_ I0 I1 hinv 
  refine ⟨bx_narP_ok (l := []) g.1, ?_⟩
  exact g.2
theorem rxgCET2 {X : (Nat → Int → Int) → Prop} {S0 : Nat → Int → Int} {ws : List Int} (hP : rxPET2 S0 ws) : bx_allI (fun i q => rxUET2 q = true ∨ bx_allP (fun o => bx_obC rxL X S0 rxCET2.2.2.1 (rxIET2 S0 ws) (rxmET2 S0 ws) i q.1 o) q.2.1) 0 rxYET2 := ⟨Or.inr ⟨rxgET2_0_0 hP, trivial⟩, Or.inl rfl, Or.inr trivial, trivial⟩
theorem rxgEET2 {X : (Nat → Int → Int) → Prop} {S0 : Nat → Int → Int} {ws : List Int} (hP : rxPET2 S0 ws) : bx_allI (fun i q => rxUET2 q = true ∨ bx_allP (fun E => bx_obE rxL X S0 rxCET2.2.2.1 (rxIET2 S0 ws) (rxPSET2 S0 ws) i q.1 E) q.2.2) 0 rxYET2 := ⟨Or.inr ⟨rxfET2_0_0 hP, rxfET2_0_1 hP, trivial⟩, Or.inl rfl, Or.inr ⟨rxfET2_2_0 hP, trivial⟩, trivial⟩
theorem rxuET2 {PX : State → Prop} {Dg : va_G} {A : Nat → Prop} {ad xa : Nat → Nat} {l : Launch} {X : (Nat → Int → Int) → Prop} (hPX : rx_PXOK rxNW A PX) (hX : ∀ S S1 : Nat → Int → Int, X S → bx_same rxL (bx_mdl rxCET2.2.2.1) S S1 → X S1) (hQMU : bx_ConP rxG rxNW rxAO PX Dg rxL X vwCl A ad l rxM265 rxCMU rxPMU rxPSMU) {S0 : Nat → Int → Int} {ws : List Int} (hP : rxPET2 S0 ws) : ∀ (i : Nat) (q : bx_HE), rxYET2[i]? = some q → rxUET2 q = true → ∀ {p : Program} {e : Env} {R : Room} {s : State} {m : MethodId} {args : Array Value} {below : List Frame} {meth : Method} {c : Code} {Q : State → Prop} {H0 : Heap}, rx_Fr rxG rxNW rxAO PX p s m args meth c rxM285 → (∀ q, H0.size ≤ q → A q) → H0 = s.heap → rxM285.2.2.2.2.2.2.1 ≤ R.cells → rxM285.2.2.2.2.2.2.2 ≤ R.slots → rxCET2.2.2.2.1 ≤ R.frames → rxCET2.2.2.2.1 * 40 ≤ R.locals → bx_Step p l e R s m args below meth c Q Dg rxL X vwCl A xa H0 ad rxM285 rxYET2 (rxIET2 S0 ws) (rxmET2 S0 ws) S0 rxCET2.2.2.1 i q := by
  intro i q hq hus p e R s m args below meth c Q H0 hF hA hH0 hmc hms hd hdl
  match i, hq with
  | 0, hq =>
    cases hq
    exact absurd (show false = true from hus) Bool.false_ne_true
  | 1, hq =>
    cases hq
    exact rx_stepC (ins := .invokevirtual 284) (len := 3) (i' := 2) (M' := rxM265) (d := rxCET2.2.2.2.1) (as := [.inr (3, (0, 480)), .inr (0, (0, 0))]) (t := []) (ct := rxCMU) hPX hF rfl hA hH0 hmc hms hd hdl (by decide +kernel) rfl rfl (by decide +kernel) (by decide +kernel) hQMU (by decide +kernel) rfl (Or.inl ⟨rfl, rfl, rfl⟩) (rxsET2_1 hP)
  | 2, hq =>
    cases hq
    exact absurd (show false = true from hus) Bool.false_ne_true
  | n + 3, hq => cases hq
theorem rxQET2 {PX : State → Prop} {Dg : va_G} {A : Nat → Prop} {ad xa : Nat → Nat} {l : Launch} {X : (Nat → Int → Int) → Prop} (hPX : rx_PXOK rxNW A PX) (hsl : ∀ s : State, PX s → ∀ o idx n : Nat, rxSl o idx = some n → ∃ tx : String, vk_R (rxNm o) idx tx (ad n) s)
    (hX : ∀ S S' : Nat → Int → Int, X S → bx_same rxL (bx_mdl rxCET2.2.2.1) S S' → X S')
    (ih : ∀ (j2 : Nat) (ct2 : bx_Ct) (M2 : rx_Mt), ct2 ∈ rxCnE j2 → ct2.2.2.2.1 + 1 ≤ rxCET2.2.2.2.1 → rxT.2.2.2.2.2 j2 = some M2 → bx_Con rxG rxNW rxAO PX Dg rxL X vwCl A ad l M2 ct2) (hQMU : bx_ConP rxG rxNW rxAO PX Dg rxL X vwCl A ad l rxM265 rxCMU rxPMU rxPSMU) : bx_ConP rxG rxNW rxAO PX Dg rxL X vwCl A ad l rxM285 rxCET2 rxPET2 rxPSET2 :=
  rxQof (xa := xa) (Cn := rxCnE) (f := 30000) (j := 285) (tab := rxYET2) (us := rxUET2) hPX hsl hX ih rfl rxYcET2 rxIET2 rxmET2
    (fun S0 ws r I0 I ht0 ht as he he1 hX0 hI0 hP hs ha => by
      have e := he.symm.trans (show bx_ent0 rxNP rxCET2.1 bx_I0 [] = some ([(0, 0), (0, 0), (0, 0), (0, 0), (0, 0), (0, 0), (0, 0), (0, 0)], [], [.inr (3, (0, 480))]) from rfl)
      cases e
      subst ha
      have h0 : r 0 = 0 := hs.1
      show rxIET2_0 S0 _ S0
      refine ⟨⟨rfl, ?_⟩, trivial⟩
      simp only [List.map_cons, List.map_nil, bx_xv_ok h0]
      rfl)
    (fun S0 ws hP => rxuET2 (xa := xa) hPX hX hQMU hP) (fun S0 ws hP => rxgCET2 hP) (fun S0 ws hP => rxgEET2 hP)
/-! CONTRACT BY HAND, by program (wip/sim/genhand.py): DeadUnderstudiesModel.law -/
def rxILW2_0 (S0 : Nat → Int → Int) (ws : List Int) (S : Nat → Int → Int) : Prop := rxI242_0 S0 ws S ∧ True
def rxmLW2_0 (S0 : Nat → Int → Int) (ws : List Int) (S : Nat → Int → Int) : Nat := rxm242_0 S0 ws S
def rxzLW2_0 : rx_Z := ([(0, 0), (0, 0), (0, 0), (0, 0), (0, 0), (0, 0), (0, 0), (0, 0)], [], [], 0, 0, 0, [(0, .inr (3, (0, 480)))], [])
def rxILW2_1 (S0 : Nat → Int → Int) (ws : List Int) (S : Nat → Int → Int) : Prop := rxI242_1 S0 ws S ∧ True
def rxmLW2_1 (S0 : Nat → Int → Int) (ws : List Int) (S : Nat → Int → Int) : Nat := rxm242_1 S0 ws S
def rxzLW2_1 : rx_Z := ([(0, 0), (0, 0), (0, 0), (0, 0), (0, 0), (0, 0), (0, 0), (0, 0)], [], [], 0, 0, 30, [(0, .inr (3, (0, 480)))], [.inr (0, (0, 0)), .inr (3, (0, 480))])
def rxILW2_2 (S0 : Nat → Int → Int) (ws : List Int) (S : Nat → Int → Int) : Prop := rxI242_2 S0 ws S ∧ True
def rxmLW2_2 (S0 : Nat → Int → Int) (ws : List Int) (S : Nat → Int → Int) : Nat := rxm242_2 S0 ws S
def rxzLW2_2 : rx_Z := ([(0, 0), (0, 0), (0, 0), (0, 0), (0, 0), (0, 0), (0, 0), (0, 0)], [], [], 0, 0, 33, [(0, .inr (3, (0, 480)))], [])
def rxILW2_3 (S0 : Nat → Int → Int) (ws : List Int) (S : Nat → Int → Int) : Prop := rxI242_3 S0 ws S ∧ True
def rxmLW2_3 (S0 : Nat → Int → Int) (ws : List Int) (S : Nat → Int → Int) : Nat := rxm242_3 S0 ws S
def rxzLW2_3 : rx_Z := ([(0, 0), (0, 0), (0, 0), (0, 0), (0, 0), (0, 0), (0, 0), (0, 0)], [], [], 0, 0, 34, [(0, .inr (3, (0, 480)))], [.inr (3, (0, 480))])
def rxILW2_4 (S0 : Nat → Int → Int) (ws : List Int) (S : Nat → Int → Int) : Prop := rxI242_4 S0 ws S ∧ True
def rxmLW2_4 (S0 : Nat → Int → Int) (ws : List Int) (S : Nat → Int → Int) : Nat := rxm242_4 S0 ws S
def rxzLW2_4 : rx_Z := ([(0, 0), (0, 0), (0, 0), (0, 0), (0, 0), (0, 0), (0, 0), (0, 0)], [], [], 0, 0, 37, [(0, .inr (3, (0, 480)))], [])
def rxILW2_5 (S0 : Nat → Int → Int) (ws : List Int) (S : Nat → Int → Int) : Prop := rxI242_5 S0 ws S ∧ True
def rxmLW2_5 (S0 : Nat → Int → Int) (ws : List Int) (S : Nat → Int → Int) : Nat := rxm242_5 S0 ws S
def rxzLW2_5 : rx_Z := ([(0, 0), (0, 0), (0, 0), (0, 0), (0, 0), (0, 0), (0, 0), (0, 0)], [], [], 0, 0, 37, [(0, .inr (3, (0, 480)))], [])
def rxILW2_6 (S0 : Nat → Int → Int) (ws : List Int) (S : Nat → Int → Int) : Prop := rxI242_6 S0 ws S ∧ True
def rxmLW2_6 (S0 : Nat → Int → Int) (ws : List Int) (S : Nat → Int → Int) : Nat := rxm242_6 S0 ws S
def rxzLW2_6 : rx_Z := ([(0, 0), (0, 0), (0, 0), (0, 0), (0, 0), (0, 0), (0, 0), (0, 0)], [], [], 0, 0, 54, [(0, .inr (3, (0, 480)))], [.inr (3, (0, 480))])
def rxILW2_7 (S0 : Nat → Int → Int) (ws : List Int) (S : Nat → Int → Int) : Prop := rxI242_7 S0 ws S ∧ True
def rxmLW2_7 (S0 : Nat → Int → Int) (ws : List Int) (S : Nat → Int → Int) : Nat := rxm242_7 S0 ws S
def rxzLW2_7 : rx_Z := ([(0, 0), (0, 0), (0, 0), (0, 0), (0, 0), (0, 0), (0, 0), (0, 0)], [], [], 0, 0, 57, [(0, .inr (3, (0, 480)))], [])
def rxILW2_8 (S0 : Nat → Int → Int) (ws : List Int) (S : Nat → Int → Int) : Prop := rxI242_8 S0 ws S ∧ True
def rxmLW2_8 (S0 : Nat → Int → Int) (ws : List Int) (S : Nat → Int → Int) : Nat := rxm242_8 S0 ws S
def rxzLW2_8 : rx_Z := ([(0, 0), (0, 0), (0, 0), (0, 0), (0, 0), (0, 0), (0, 0), (0, 0)], [], [], 0, 0, 58, [(0, .inr (3, (0, 480)))], [.inr (3, (0, 480))])
def rxILW2_9 (S0 : Nat → Int → Int) (ws : List Int) (S : Nat → Int → Int) : Prop := rxI242_9 S0 ws S ∧ True
def rxmLW2_9 (S0 : Nat → Int → Int) (ws : List Int) (S : Nat → Int → Int) : Nat := rxm242_9 S0 ws S
def rxzLW2_9 : rx_Z := ([(0, 0), (0, 0), (0, 0), (0, 0), (0, 0), (0, 0), (0, 0), (0, 0)], [], [], 0, 0, 61, [(0, .inr (3, (0, 480)))], [])
def rxILW2_10 (S0 : Nat → Int → Int) (ws : List Int) (S : Nat → Int → Int) : Prop := rxI242_10 S0 ws S ∧ True
def rxmLW2_10 (S0 : Nat → Int → Int) (ws : List Int) (S : Nat → Int → Int) : Nat := rxm242_10 S0 ws S
def rxzLW2_10 : rx_Z := ([(0, 0), (0, 0), (0, 0), (0, 0), (0, 0), (0, 0), (0, 0), (0, 0)], [], [], 0, 0, 65, [(0, .inr (3, (0, 480)))], [.inr (3, (0, 480))])
def rxILW2_11 (S0 : Nat → Int → Int) (ws : List Int) (S : Nat → Int → Int) : Prop := rxI242_11 S0 ws S ∧ S 480 8 = 0
def rxmLW2_11 (S0 : Nat → Int → Int) (ws : List Int) (S : Nat → Int → Int) : Nat := rxm242_11 S0 ws S
def rxzLW2_11 : rx_Z := ([(0, 0), (0, 0), (0, 0), (0, 0), (0, 0), (0, 0), (0, 0), (0, 0)], [], [], 0, 0, 68, [(0, .inr (3, (0, 480)))], [])
def rxILW2_12 (S0 : Nat → Int → Int) (ws : List Int) (S : Nat → Int → Int) (n3 : Int) : Prop := rxI242_12 S0 ws S n3 ∧ S 480 8 = 0
def rxmLW2_12 (S0 : Nat → Int → Int) (ws : List Int) (S : Nat → Int → Int) (n3 : Int) : Nat := rxm242_12 S0 ws S n3
def rxzLW2_12 : rx_Z := ([(0, 0), (0, 0), (0, 0), (0, 0), (0, 0), (0, 0), (0, 0), (0, 0), (0, 5)], [], [], 0, 0, 94, [(0, .inr (3, (0, 480)))], [.inr (0, (8, 0)), .inr (0, (0, 900)), .inr (0, (0, 780))])
def rxILW2_13 (S0 : Nat → Int → Int) (ws : List Int) (S : Nat → Int → Int) (base a v : Int) : Prop := rxI242_13 S0 ws S base a v ∧ S 480 8 = 0
def rxmLW2_13 (S0 : Nat → Int → Int) (ws : List Int) (S : Nat → Int → Int) (base a v : Int) : Nat := rxm242_13 S0 ws S base a v
def rxzLW2_13 : rx_Z := ([(0, 0), (0, 0), (0, 0), (0, 0), (0, 0), (0, 0), (0, 0), (0, 0), (780, 5280), (781, 5281), (0, 12)], [], [], 0, 0, 108, [(0, .inr (3, (0, 480))), (1, .inr (0, (8, 0)))], [.inr (0, (10, 0)), .inr (0, (9, 0)), .inr (3, (0, 482))])
def rxILW2_14 (S0 : Nat → Int → Int) (ws : List Int) (S : Nat → Int → Int) (base a v : Int) : Prop := rxI242_14 S0 ws S base a v ∧ S 480 8 = 0
def rxmLW2_14 (S0 : Nat → Int → Int) (ws : List Int) (S : Nat → Int → Int) (base a v : Int) : Nat := rxm242_14 S0 ws S base a v
def rxzLW2_14 : rx_Z := ([(0, 0), (0, 0), (0, 0), (0, 0), (0, 0), (0, 0), (0, 0), (0, 0), (780, 5280), (781, 5281), (0, 12)], [], [], 0, 0, 109, [(0, .inr (3, (0, 480))), (1, .inr (0, (8, 0)))], [])
def rxILW2_15 (S0 : Nat → Int → Int) (ws : List Int) (S : Nat → Int → Int) (base i : Int) : Prop := rxI242_15 S0 ws S base i ∧ S 480 8 = 0
def rxmLW2_15 (S0 : Nat → Int → Int) (ws : List Int) (S : Nat → Int → Int) (base i : Int) : Nat := rxm242_15 S0 ws S base i
def rxzLW2_15 : rx_Z := ([(0, 0), (0, 0), (0, 0), (0, 0), (0, 0), (0, 0), (0, 0), (0, 0), (780, 5280), (0, 96)], [], [], 0, 0, 111, [(0, .inr (3, (0, 480))), (1, .inr (0, (8, 0))), (2, .inr (0, (9, 0)))], [])
def rxILW2_16 (S0 : Nat → Int → Int) (ws : List Int) (S : Nat → Int → Int) (base i a v : Int) : Prop := rxI242_16 S0 ws S base i a v ∧ S 480 8 = 0
def rxmLW2_16 (S0 : Nat → Int → Int) (ws : List Int) (S : Nat → Int → Int) (base i a v : Int) : Nat := rxm242_16 S0 ws S base i a v
def rxzLW2_16 : rx_Z := ([(0, 0), (0, 0), (0, 0), (0, 0), (0, 0), (0, 0), (0, 0), (0, 0), (780, 5280), (0, 95), (782, 5377), (0, 400)], [], [], 0, 0, 137, [(0, .inr (3, (0, 480))), (1, .inr (0, (8, 0))), (2, .inr (0, (9, 0)))], [.inr (0, (11, 0)), .inr (0, (10, 0)), .inr (3, (0, 482))])
def rxILW2_17 (S0 : Nat → Int → Int) (ws : List Int) (S : Nat → Int → Int) (base i a v : Int) : Prop := rxI242_17 S0 ws S base i a v ∧ S 480 8 = 0
def rxmLW2_17 (S0 : Nat → Int → Int) (ws : List Int) (S : Nat → Int → Int) (base i a v : Int) : Nat := rxm242_17 S0 ws S base i a v
def rxzLW2_17 : rx_Z := ([(0, 0), (0, 0), (0, 0), (0, 0), (0, 0), (0, 0), (0, 0), (0, 0), (780, 5280), (0, 95), (782, 5377), (0, 400)], [], [], 0, 0, 138, [(0, .inr (3, (0, 480))), (1, .inr (0, (8, 0))), (2, .inr (0, (9, 0)))], [])
def rxILW2_18 (S0 : Nat → Int → Int) (ws : List Int) (S : Nat → Int → Int) (base i : Int) : Prop := rxI242_18 S0 ws S base i ∧ S 480 8 = 0
def rxmLW2_18 (S0 : Nat → Int → Int) (ws : List Int) (S : Nat → Int → Int) (base i : Int) : Nat := rxm242_18 S0 ws S base i
def rxzLW2_18 : rx_Z := ([(0, 0), (0, 0), (0, 0), (0, 0), (0, 0), (0, 0), (0, 0), (0, 0), (780, 5280), (0, 400)], [], [], 0, 0, 146, [(0, .inr (3, (0, 480))), (1, .inr (0, (8, 0))), (2, .inr (0, (9, 0)))], [])
def rxILW2_19 (S0 : Nat → Int → Int) (ws : List Int) (S : Nat → Int → Int) (base i a v : Int) : Prop := rxI242_19 S0 ws S base i a v ∧ S 480 8 = 0
def rxmLW2_19 (S0 : Nat → Int → Int) (ws : List Int) (S : Nat → Int → Int) (base i a v : Int) : Nat := rxm242_19 S0 ws S base i a v
def rxzLW2_19 : rx_Z := ([(0, 0), (0, 0), (0, 0), (0, 0), (0, 0), (0, 0), (0, 0), (0, 0), (780, 5280), (0, 399), (878, 6176), (0, 30)], [], [], 0, 0, 172, [(0, .inr (3, (0, 480))), (1, .inr (0, (8, 0))), (2, .inr (0, (9, 0)))], [.inr (0, (11, 0)), .inr (0, (10, 0)), .inr (3, (0, 482))])
def rxILW2_20 (S0 : Nat → Int → Int) (ws : List Int) (S : Nat → Int → Int) (base i a v : Int) : Prop := rxI242_20 S0 ws S base i a v ∧ S 480 8 = 0
def rxmLW2_20 (S0 : Nat → Int → Int) (ws : List Int) (S : Nat → Int → Int) (base i a v : Int) : Nat := rxm242_20 S0 ws S base i a v
def rxzLW2_20 : rx_Z := ([(0, 0), (0, 0), (0, 0), (0, 0), (0, 0), (0, 0), (0, 0), (0, 0), (780, 5280), (0, 399), (878, 6176), (0, 30)], [], [], 0, 0, 173, [(0, .inr (3, (0, 480))), (1, .inr (0, (8, 0))), (2, .inr (0, (9, 0)))], [])
def rxILW2_21 (S0 : Nat → Int → Int) (ws : List Int) (S : Nat → Int → Int) (base i a v : Int) : Prop := rxI242_21 S0 ws S base i a v ∧ S 480 8 = 0
def rxmLW2_21 (S0 : Nat → Int → Int) (ws : List Int) (S : Nat → Int → Int) (base i a v : Int) : Nat := rxm242_21 S0 ws S base i a v
def rxzLW2_21 : rx_Z := ([(0, 0), (0, 0), (0, 0), (0, 0), (0, 0), (0, 0), (0, 0), (0, 0), (780, 5280), (0, 399), (879, 6177), (0, 1000)], [], [], 0, 0, 193, [(0, .inr (3, (0, 480))), (1, .inr (0, (8, 0))), (2, .inr (0, (9, 0)))], [.inr (0, (11, 0)), .inr (0, (10, 0)), .inr (3, (0, 482))])
def rxILW2_22 (S0 : Nat → Int → Int) (ws : List Int) (S : Nat → Int → Int) (base i a v : Int) : Prop := rxI242_22 S0 ws S base i a v ∧ S 480 8 = 0
def rxmLW2_22 (S0 : Nat → Int → Int) (ws : List Int) (S : Nat → Int → Int) (base i a v : Int) : Nat := rxm242_22 S0 ws S base i a v
def rxzLW2_22 : rx_Z := ([(0, 0), (0, 0), (0, 0), (0, 0), (0, 0), (0, 0), (0, 0), (0, 0), (780, 5280), (0, 399), (879, 6177), (0, 1000)], [], [], 0, 0, 194, [(0, .inr (3, (0, 480))), (1, .inr (0, (8, 0))), (2, .inr (0, (9, 0)))], [])
def rxILW2_23 (S0 : Nat → Int → Int) (ws : List Int) (S : Nat → Int → Int) (n3 : Int) : Prop := rxI242_23 S0 ws S n3 ∧ S 480 8 = 0
def rxmLW2_23 (S0 : Nat → Int → Int) (ws : List Int) (S : Nat → Int → Int) (n3 : Int) : Nat := rxm242_23 S0 ws S n3
def rxzLW2_23 : rx_Z := ([(0, 0), (0, 0), (0, 0), (0, 0), (0, 0), (0, 0), (0, 0), (0, 0), (0, 5)], [], [], 0, 0, 207, [(0, .inr (3, (0, 480)))], [.inr (0, (8, 0)), .inr (0, (0, 3)), .inr (3, (0, 482))])
def rxoLW2_0_0 : bx_HO := (([(0, 0), (0, 0), (0, 0), (0, 0), (0, 0), (0, 0), (0, 0), (0, 0), (0, 5)], [(3, (8, 0), (0, 6))], [(((0, 0), 1851192626986356798026460450737346142932482408387548938499129344000000), .inr (0, (8, 0))), (((0, 482), 3), .inr (0, (8, 0))), (((0, 480), 3), .inr (3, (0, 482))), (((0, 0), 1851192626986356797424340330377019318111018015026043177836478467000000), .inr (0, (0, 0))), (((0, 480), 0), .inr (0, (0, 0)))], 0, 0, 30, [(0, .inr (3, (0, 480)))], [.inr (0, (0, 0)), .inr (3, (0, 480))]), [], [], [(0, 0), (0, 0), (0, 0), (0, 0), (0, 0), (0, 0), (0, 0), (0, 0)], 1)
def rxeLW2_0_0 : rx_End × List (Nat × Int × Int) := (([(0, 0), (0, 0), (0, 0), (0, 0), (0, 0), (0, 0), (0, 0), (0, 0), (6, 6), ((-2147483648), 2147483647), ((-2147483648), 2147483647)], [], [(((0, 0), 1851192626986356798427873864310897359480125337295219445606187011000000), .inr (0, (10, 0))), (((0, 481), 5), .inr (0, (10, 0))), (((0, 0), 1851192626986356798427873864310897359480125337295219445606187008000000), .inr (0, (9, 0))), (((0, 480), 2), .inr (3, (0, 481))), (((0, 0), 1851192626986356797625047037163794926384839479479878431390302211000000), .inr (0, (0, (-5)))), (((0, 480), 1), .inr (0, (0, (-5)))), (((0, 0), 1851192626986356799029993984671224184301589730656725206267068419000000), .inr (0, (0, 0))), (((0, 480), 8), .inr (0, (0, 0))), (((0, 0), 1851192626986356798026460450737346142932482408387548938499129344000000), .inr (0, (8, 0))), (((0, 482), 3), .inr (0, (8, 0))), (((0, 480), 3), .inr (3, (0, 482))), (((0, 0), 1851192626986356797424340330377019318111018015026043177836478467000000), .inr (0, (0, 0))), (((0, 480), 0), .inr (0, (0, 0)))], some (.inr (0, (0, (-5))))), [])
def rxoLW2_2_0 : bx_HO := (([(0, 0), (0, 0), (0, 0), (0, 0), (0, 0), (0, 0), (0, 0), (0, 0)], [], [], 0, 0, 34, [(0, .inr (3, (0, 480)))], [.inr (3, (0, 480))]), [], [], [(0, 0), (0, 0), (0, 0), (0, 0), (0, 0), (0, 0), (0, 0), (0, 0)], 3)
def rxoLW2_4_0 : bx_HO := (([(0, 0), (0, 0), (0, 0), (0, 0), (0, 0), (0, 0), (0, 0), (0, 0), (0, 0), (0, 2)], [(3, (9, 0), (0, 3))], [(((0, 0), 1851192626986356799632114105031551009123054124018230966928539648000000), .inr (0, (9, 0))), (((0, 480), 11), .inr (0, (9, 0))), (((0, 0), 1851192626986356800234234225391877833944518517379736727590010880000000), .inr (0, (8, 0))), (((0, 480), 14), .inr (0, (8, 0)))], 0, 0, 65, [(0, .inr (3, (0, 480)))], [.inr (3, (0, 480))]), [], [], [(0, 0), (0, 0), (0, 0), (0, 0), (0, 0), (0, 0), (0, 0), (0, 0)], 10)
def rxoLW2_4_1 : bx_HO := (([(0, 0), (0, 0), (0, 0), (0, 0), (0, 0), (0, 0), (0, 0), (0, 0), (0, 0), (3, 3), ((-9223372036854775808), 9223372036854775807)], [(3, (10, 0), (0, 59))], [(((0, 0), 1851192626986356799832820811818326617396875588472066220482363392000000), .inr (1, (10, 0))), (((0, 480), 12), .inr (1, (10, 0))), (((0, 0), 1851192626986356799632114105031551009123054124018230966928539648000000), .inr (0, (9, 0))), (((0, 480), 11), .inr (0, (9, 0))), (((0, 0), 1851192626986356800234234225391877833944518517379736727590010880000000), .inr (0, (8, 0))), (((0, 480), 14), .inr (0, (8, 0)))], 0, 0, 65, [(0, .inr (3, (0, 480)))], [.inr (3, (0, 480))]), [], [], [(0, 0), (0, 0), (0, 0), (0, 0), (0, 0), (0, 0), (0, 0), (0, 0)], 10)
def rxoLW2_4_2 : bx_HO := (([(0, 0), (0, 0), (0, 0), (0, 0), (0, 0), (0, 0), (0, 0), (0, 0), (0, 0), (3, 3), (59, 59)], [], [(((0, 0), 1851192626986356799832820811818326617396875588472066220482363392000000), .inr (1, (10, 0))), (((0, 480), 12), .inr (1, (10, 0))), (((0, 0), 1851192626986356799632114105031551009123054124018230966928539648000000), .inr (0, (9, 0))), (((0, 480), 11), .inr (0, (9, 0))), (((0, 0), 1851192626986356800234234225391877833944518517379736727590010880000000), .inr (0, (8, 0))), (((0, 480), 14), .inr (0, (8, 0)))], 0, 0, 54, [(0, .inr (3, (0, 480)))], [.inr (3, (0, 480))]), [], [], [(0, 0), (0, 0), (0, 0), (0, 0), (0, 0), (0, 0), (0, 0), (0, 0)], 6)
def rxoLW2_4_3 : bx_HO := (([(0, 0), (0, 0), (0, 0), (0, 0), (0, 0), (0, 0), (0, 0), (0, 0), (1, 1)], [(3, (8, 0), (0, 0))], [(((0, 0), 1851192626986356800234234225391877833944518517379736727590010880000000), .inr (0, (8, 0))), (((0, 480), 14), .inr (0, (8, 0)))], 0, 0, 65, [(0, .inr (3, (0, 480)))], [.inr (3, (0, 480))]), [], [], [(0, 0), (0, 0), (0, 0), (0, 0), (0, 0), (0, 0), (0, 0), (0, 0)], 10)
def rxoLW2_5_0 : bx_HO := (([(0, 0), (0, 0), (0, 0), (0, 0), (0, 0), (0, 0), (0, 0), (0, 0), (0, 0), (0, 2)], [(3, (9, 0), (0, 3))], [(((0, 0), 1851192626986356799632114105031551009123054124018230966928539648000000), .inr (0, (9, 0))), (((0, 480), 11), .inr (0, (9, 0))), (((0, 0), 1851192626986356800234234225391877833944518517379736727590010880000000), .inr (0, (8, 0))), (((0, 480), 14), .inr (0, (8, 0)))], 0, 0, 65, [(0, .inr (3, (0, 480)))], [.inr (3, (0, 480))]), [], [], [(0, 0), (0, 0), (0, 0), (0, 0), (0, 0), (0, 0), (0, 0), (0, 0)], 10)
def rxoLW2_5_1 : bx_HO := (([(0, 0), (0, 0), (0, 0), (0, 0), (0, 0), (0, 0), (0, 0), (0, 0), (0, 0), (3, 3), ((-9223372036854775808), 9223372036854775807)], [(3, (10, 0), (0, 59))], [(((0, 0), 1851192626986356799832820811818326617396875588472066220482363392000000), .inr (1, (10, 0))), (((0, 480), 12), .inr (1, (10, 0))), (((0, 0), 1851192626986356799632114105031551009123054124018230966928539648000000), .inr (0, (9, 0))), (((0, 480), 11), .inr (0, (9, 0))), (((0, 0), 1851192626986356800234234225391877833944518517379736727590010880000000), .inr (0, (8, 0))), (((0, 480), 14), .inr (0, (8, 0)))], 0, 0, 65, [(0, .inr (3, (0, 480)))], [.inr (3, (0, 480))]), [], [], [(0, 0), (0, 0), (0, 0), (0, 0), (0, 0), (0, 0), (0, 0), (0, 0)], 10)
def rxoLW2_5_2 : bx_HO := (([(0, 0), (0, 0), (0, 0), (0, 0), (0, 0), (0, 0), (0, 0), (0, 0), (0, 0), (3, 3), (59, 59)], [], [(((0, 0), 1851192626986356799832820811818326617396875588472066220482363392000000), .inr (1, (10, 0))), (((0, 480), 12), .inr (1, (10, 0))), (((0, 0), 1851192626986356799632114105031551009123054124018230966928539648000000), .inr (0, (9, 0))), (((0, 480), 11), .inr (0, (9, 0))), (((0, 0), 1851192626986356800234234225391877833944518517379736727590010880000000), .inr (0, (8, 0))), (((0, 480), 14), .inr (0, (8, 0)))], 0, 0, 54, [(0, .inr (3, (0, 480)))], [.inr (3, (0, 480))]), [], [], [(0, 0), (0, 0), (0, 0), (0, 0), (0, 0), (0, 0), (0, 0), (0, 0)], 6)
def rxoLW2_5_3 : bx_HO := (([(0, 0), (0, 0), (0, 0), (0, 0), (0, 0), (0, 0), (0, 0), (0, 0), (1, 1)], [(3, (8, 0), (0, 0))], [(((0, 0), 1851192626986356800234234225391877833944518517379736727590010880000000), .inr (0, (8, 0))), (((0, 480), 14), .inr (0, (8, 0)))], 0, 0, 65, [(0, .inr (3, (0, 480)))], [.inr (3, (0, 480))]), [], [], [(0, 0), (0, 0), (0, 0), (0, 0), (0, 0), (0, 0), (0, 0), (0, 0)], 10)
def rxoLW2_7_0 : bx_HO := (([(0, 0), (0, 0), (0, 0), (0, 0), (0, 0), (0, 0), (0, 0), (0, 0)], [], [], 0, 0, 58, [(0, .inr (3, (0, 480)))], [.inr (3, (0, 480))]), [], [], [(0, 0), (0, 0), (0, 0), (0, 0), (0, 0), (0, 0), (0, 0), (0, 0)], 8)
def rxoLW2_9_0 : bx_HO := (([(0, 0), (0, 0), (0, 0), (0, 0), (0, 0), (0, 0), (0, 0), (0, 0)], [], [], 0, 0, 37, [(0, .inr (3, (0, 480)))], []), [], [], [(0, 0), (0, 0), (0, 0), (0, 0), (0, 0), (0, 0), (0, 0), (0, 0)], 5)
def rxoLW2_11_0 : bx_HO := (([(0, 0), (0, 0), (0, 0), (0, 0), (0, 0), (0, 0), (0, 0), (0, 0), (0, 0), (0, 6)], [], [(((0, 0), 1851192626986356798026460450737346142932482408387548938499129344000000), .inr (0, (9, 0))), (((0, 482), 3), .inr (0, (9, 0))), (((0, 480), 3), .inr (3, (0, 482))), (((0, 0), 1851192626986356800234234225391877833944518517379736727590010880000000), .inr (0, (8, 0))), (((0, 480), 14), .inr (0, (8, 0)))], 0, 0, 94, [(0, .inr (3, (0, 480)))], [.inr (0, (9, 0)), .inr (0, (0, 900)), .inr (0, (0, 780))]), [(9, 0, 5)], [], [(0, 0), (0, 0), (0, 0), (0, 0), (0, 0), (0, 0), (0, 0), (0, 0), (9, 0)], 12)
def rxeLW2_11_0 : rx_End × List (Nat × Int × Int) := (([(0, 0), (0, 0), (0, 0), (0, 0), (0, 0), (0, 0), (0, 0), (0, 0), (1, 1), ((-2147483648), 2147483647), ((-2147483648), 2147483647)], [(3, (8, 0), (0, 0))], [(((0, 0), 1851192626986356798628580571097672967753946801749054699160010755000000), .inr (0, (10, 0))), (((0, 481), 6), .inr (0, (10, 0))), (((0, 0), 1851192626986356798628580571097672967753946801749054699160010752000000), .inr (0, (9, 0))), (((0, 480), 2), .inr (3, (0, 481))), (((0, 0), 1851192626986356797625047037163794926384839479479878431390302211000000), .inr (0, (0, (-6)))), (((0, 480), 1), .inr (0, (0, (-6)))), (((0, 0), 1851192626986356800234234225391877833944518517379736727590010880000000), .inr (0, (8, 0))), (((0, 480), 14), .inr (0, (8, 0)))], some (.inr (0, (0, (-6))))), [])
def rxoLW2_12_0 : bx_HO := (([(0, 0), (0, 0), (0, 0), (0, 0), (0, 0), (0, 0), (0, 0), (0, 0), (0, 5), (0, 4500), (0, 12)], [(904, (9, 0), (8, 0))], [(((0, 0), 1851192626986356800635647638965429050492161446287407234697658368000000), .inr (0, (10, 0))), (((0, 480), 16), .inr (0, (10, 0))), (((0, 480), 3), .inr (3, (0, 482)))], 0, 0, 108, [(1, .inr (0, (9, 780))), (0, .inr (3, (0, 480)))], [.inr (0, (10, 0)), .inr (0, (9, 781)), .inr (3, (0, 482))]), [], [], [(0, 0), (0, 0), (0, 0), (0, 0), (0, 0), (0, 0), (0, 0), (0, 0), (9, 780), (9, 781), (10, 0)], 13)
def rxoLW2_14_0 : bx_HO := (([(0, 0), (0, 0), (0, 0), (0, 0), (0, 0), (0, 0), (0, 0), (0, 0), (780, 5280), (781, 5281), (0, 12)], [], [], 0, 0, 111, [(2, .inr (0, (0, 0))), (0, .inr (3, (0, 480))), (1, .inr (0, (8, 0)))], []), [], [], [(0, 0), (0, 0), (0, 0), (0, 0), (0, 0), (0, 0), (0, 0), (0, 0), (8, 0), (0, 0)], 15)
def rxoLW2_15_0 : bx_HO := (([(0, 0), (0, 0), (0, 0), (0, 0), (0, 0), (0, 0), (0, 0), (0, 0), (780, 5280), (0, 95), (0, 12), (1, 96), (782, 5377), (0, 400)], [(604462909807314587353097000000, (12, 0), (8, 2)), (0, (9, 0), (11, 0)), (12, (11, 0), (10, 0))], [(((0, 0), 1851192626986356797424367893248739914126558548369245151065145344000000), .inr (0, (13, 0))), (((0, 480), 17), .inr (3, (0, 486))), (((0, 480), 3), .inr (3, (0, 482))), (((0, 0), 1851192626986356800635647638965429050492161446287407234697658368000000), .inr (0, (10, 0))), (((0, 480), 16), .inr (0, (10, 0)))], 0, 0, 137, [(0, .inr (3, (0, 480))), (1, .inr (0, (8, 0))), (2, .inr (0, (9, 0)))], [.inr (0, (13, 0)), .inr (0, (12, 0)), .inr (3, (0, 482))]), [], [], [(0, 0), (0, 0), (0, 0), (0, 0), (0, 0), (0, 0), (0, 0), (0, 0), (8, 0), (9, 0), (12, 0), (13, 0)], 16)
def rxoLW2_15_1 : bx_HO := (([(0, 0), (0, 0), (0, 0), (0, 0), (0, 0), (0, 0), (0, 0), (0, 0), (780, 5280), (0, 96), (0, 12), (0, 96)], [(1, (11, 0), (9, 0)), (12, (11, 0), (10, 0))], [(((0, 0), 1851192626986356800635647638965429050492161446287407234697658368000000), .inr (0, (10, 0))), (((0, 480), 16), .inr (0, (10, 0)))], 0, 0, 146, [(2, .inr (0, (0, 0))), (0, .inr (3, (0, 480))), (1, .inr (0, (8, 0)))], []), [], [], [(0, 0), (0, 0), (0, 0), (0, 0), (0, 0), (0, 0), (0, 0), (0, 0), (8, 0), (0, 0)], 18)
def rxoLW2_17_0 : bx_HO := (([(0, 0), (0, 0), (0, 0), (0, 0), (0, 0), (0, 0), (0, 0), (0, 0), (780, 5280), (0, 95), (782, 5377), (0, 400)], [], [], 0, 0, 111, [(2, .inr (0, (9, 1))), (0, .inr (3, (0, 480))), (1, .inr (0, (8, 0)))], []), [], [], [(0, 0), (0, 0), (0, 0), (0, 0), (0, 0), (0, 0), (0, 0), (0, 0), (8, 0), (9, 1)], 15)
def rxoLW2_18_0 : bx_HO := (([(0, 0), (0, 0), (0, 0), (0, 0), (0, 0), (0, 0), (0, 0), (0, 0), (780, 5280), (0, 399), (1, 400), (0, 798), (878, 6176), (0, 30)], [(604462909807314587353099000000, (12, 0), (8, 98)), (6, (11, 0), (9, 0)), (0, (9, 0), (10, 0))], [(((0, 0), 1851192626986356797424367893248739914126558548369245151065735168000000), .inr (0, (13, 0))), (((0, 480), 19), .inr (3, (0, 487))), (((0, 480), 3), .inr (3, (0, 482))), (((0, 0), 1851192626986356801037061052538980267039804375195077741805305856000000), .inr (0, (10, 0))), (((0, 480), 18), .inr (0, (10, 0)))], 0, 0, 172, [(0, .inr (3, (0, 480))), (1, .inr (0, (8, 0))), (2, .inr (0, (9, 0)))], [.inr (0, (13, 0)), .inr (0, (12, 0)), .inr (3, (0, 482))]), [], [], [(0, 0), (0, 0), (0, 0), (0, 0), (0, 0), (0, 0), (0, 0), (0, 0), (8, 0), (9, 0), (12, 0), (13, 0)], 19)
def rxoLW2_18_1 : bx_HO := (([(0, 0), (0, 0), (0, 0), (0, 0), (0, 0), (0, 0), (0, 0), (0, 0), (780, 5280), (0, 400), (0, 400), (0, 6)], [(1, (10, 0), (9, 0))], [(((0, 0), 1851192626986356798026460450737346142932482408387548938499129344000000), .inr (0, (11, 0))), (((0, 482), 3), .inr (0, (11, 0))), (((0, 480), 3), .inr (3, (0, 482))), (((0, 0), 1851192626986356801037061052538980267039804375195077741805305856000000), .inr (0, (10, 0))), (((0, 480), 18), .inr (0, (10, 0)))], 0, 0, 207, [(0, .inr (3, (0, 480))), (1, .inr (0, (8, 0))), (2, .inr (0, (9, 0)))], [.inr (0, (11, 0)), .inr (0, (0, 3)), .inr (3, (0, 482))]), [(11, 0, 5)], [], [(0, 0), (0, 0), (0, 0), (0, 0), (0, 0), (0, 0), (0, 0), (0, 0), (11, 0)], 23)
def rxoLW2_20_0 : bx_HO := (([(0, 0), (0, 0), (0, 0), (0, 0), (0, 0), (0, 0), (0, 0), (0, 0), (780, 5280), (0, 399), (878, 6176), (0, 30), (0, 798), (878, 6176), (0, 1000)], [(604462909807314587353100000000, (13, 0), (8, 98)), (6, (12, 0), (9, 0))], [(((0, 0), 1851192626986356797424367893248739914126558548369245151066324992000000), .inr (0, (14, 0))), (((0, 480), 20), .inr (3, (0, 488))), (((0, 480), 3), .inr (3, (0, 482)))], 0, 0, 193, [(0, .inr (3, (0, 480))), (1, .inr (0, (8, 0))), (2, .inr (0, (9, 0)))], [.inr (0, (14, 0)), .inr (0, (13, 1)), .inr (3, (0, 482))]), [], [], [(0, 0), (0, 0), (0, 0), (0, 0), (0, 0), (0, 0), (0, 0), (0, 0), (8, 0), (9, 0), (13, 1), (14, 0)], 21)
def rxoLW2_22_0 : bx_HO := (([(0, 0), (0, 0), (0, 0), (0, 0), (0, 0), (0, 0), (0, 0), (0, 0), (780, 5280), (0, 399), (879, 6177), (0, 1000)], [], [], 0, 0, 146, [(2, .inr (0, (9, 1))), (0, .inr (3, (0, 480))), (1, .inr (0, (8, 0)))], []), [], [], [(0, 0), (0, 0), (0, 0), (0, 0), (0, 0), (0, 0), (0, 0), (0, 0), (8, 0), (9, 1)], 18)
def rxeLW2_23_0 : rx_End × List (Nat × Int × Int) := (([(0, 0), (0, 0), (0, 0), (0, 0), (0, 0), (0, 0), (0, 0), (0, 0), (0, 5)], [], [(((0, 0), 1851192626986356797625047037163794926384839479479878431390302211000000), .inr (0, (0, 0))), (((0, 480), 1), .inr (0, (0, 0))), (((0, 480), 3), .inr (3, (0, 482))), (((0, 0), 1851192626986356798026460450737346142932482408387548938499129347000000), .inr (0, (8, 1))), (((0, 482), 3), .inr (0, (8, 1)))], some (.inr (0, (8, 0)))), [])
def rxYLW2 : List bx_HE := [(rxzLW2_0, [rxoLW2_0_0], [rxeLW2_0_0]), (rxzLW2_1, [], []), (rxzLW2_2, [rxoLW2_2_0], []), (rxzLW2_3, [], []), (rxzLW2_4, [rxoLW2_4_0, rxoLW2_4_1, rxoLW2_4_2, rxoLW2_4_3], []), (rxzLW2_5, [rxoLW2_5_0, rxoLW2_5_1, rxoLW2_5_2, rxoLW2_5_3], []), (rxzLW2_6, [], []), (rxzLW2_7, [rxoLW2_7_0], []), (rxzLW2_8, [], []), (rxzLW2_9, [rxoLW2_9_0], []), (rxzLW2_10, [], []), (rxzLW2_11, [rxoLW2_11_0], [rxeLW2_11_0]), (rxzLW2_12, [rxoLW2_12_0], []), (rxzLW2_13, [], []), (rxzLW2_14, [rxoLW2_14_0], []), (rxzLW2_15, [rxoLW2_15_0, rxoLW2_15_1], []), (rxzLW2_16, [], []), (rxzLW2_17, [rxoLW2_17_0], []), (rxzLW2_18, [rxoLW2_18_0, rxoLW2_18_1], []), (rxzLW2_19, [], []), (rxzLW2_20, [rxoLW2_20_0], []), (rxzLW2_21, [], []), (rxzLW2_22, [rxoLW2_22_0], []), (rxzLW2_23, [], [rxeLW2_23_0])]
def rxULW2 (q : bx_HE) : Bool := Nat.beq (rx_zpc q.1) 30 || Nat.beq (rx_zpc q.1) 34 || Nat.beq (rx_zpc q.1) 54 || Nat.beq (rx_zpc q.1) 58 || Nat.beq (rx_zpc q.1) 65 || Nat.beq (rx_zpc q.1) 108 || Nat.beq (rx_zpc q.1) 137 || Nat.beq (rx_zpc q.1) 172 || Nat.beq (rx_zpc q.1) 193
def rxYBLW2 : bx_B := (rxV, rxNP, rxDmf, bx_mdH rxC242.2.2.1)
set_option maxRecDepth 100000 in
theorem rxYcLW2 : bx_chkH rxYBLW2 rxM242 rxC242 rxYLW2 (rxULW2, fun cut z => rx_ex2 (rxCT rxYBLW2 rxCnE) cut 30000 rxC242.2.2.2.1 242 z) = true := by decide +kernel
def rxILW2 (S0 : Nat → Int → Int) (ws : List Int) (i : Nat) : bx_SP := fun S r => match i with | 0 => rxILW2_0 S0 ws S | 1 => rxILW2_1 S0 ws S | 2 => rxILW2_2 S0 ws S | 3 => rxILW2_3 S0 ws S | 4 => rxILW2_4 S0 ws S | 5 => rxILW2_5 S0 ws S | 6 => rxILW2_6 S0 ws S | 7 => rxILW2_7 S0 ws S | 8 => rxILW2_8 S0 ws S | 9 => rxILW2_9 S0 ws S | 10 => rxILW2_10 S0 ws S | 11 => rxILW2_11 S0 ws S | 12 => rxILW2_12 S0 ws S (r 8) | 13 => rxILW2_13 S0 ws S (r 8) (r 9) (r 10) | 14 => rxILW2_14 S0 ws S (r 8) (r 9) (r 10) | 15 => rxILW2_15 S0 ws S (r 8) (r 9) | 16 => rxILW2_16 S0 ws S (r 8) (r 9) (r 10) (r 11) | 17 => rxILW2_17 S0 ws S (r 8) (r 9) (r 10) (r 11) | 18 => rxILW2_18 S0 ws S (r 8) (r 9) | 19 => rxILW2_19 S0 ws S (r 8) (r 9) (r 10) (r 11) | 20 => rxILW2_20 S0 ws S (r 8) (r 9) (r 10) (r 11) | 21 => rxILW2_21 S0 ws S (r 8) (r 9) (r 10) (r 11) | 22 => rxILW2_22 S0 ws S (r 8) (r 9) (r 10) (r 11) | 23 => rxILW2_23 S0 ws S (r 8) | _ => False
def rxmLW2 (S0 : Nat → Int → Int) (ws : List Int) (i : Nat) (S : Nat → Int → Int) (r : Nat → Int) : Nat := match i with | 0 => rxmLW2_0 S0 ws S | 1 => rxmLW2_1 S0 ws S | 2 => rxmLW2_2 S0 ws S | 3 => rxmLW2_3 S0 ws S | 4 => rxmLW2_4 S0 ws S | 5 => rxmLW2_5 S0 ws S | 6 => rxmLW2_6 S0 ws S | 7 => rxmLW2_7 S0 ws S | 8 => rxmLW2_8 S0 ws S | 9 => rxmLW2_9 S0 ws S | 10 => rxmLW2_10 S0 ws S | 11 => rxmLW2_11 S0 ws S | 12 => rxmLW2_12 S0 ws S (r 8) | 13 => rxmLW2_13 S0 ws S (r 8) (r 9) (r 10) | 14 => rxmLW2_14 S0 ws S (r 8) (r 9) (r 10) | 15 => rxmLW2_15 S0 ws S (r 8) (r 9) | 16 => rxmLW2_16 S0 ws S (r 8) (r 9) (r 10) (r 11) | 17 => rxmLW2_17 S0 ws S (r 8) (r 9) (r 10) (r 11) | 18 => rxmLW2_18 S0 ws S (r 8) (r 9) | 19 => rxmLW2_19 S0 ws S (r 8) (r 9) (r 10) (r 11) | 20 => rxmLW2_20 S0 ws S (r 8) (r 9) (r 10) (r 11) | 21 => rxmLW2_21 S0 ws S (r 8) (r 9) (r 10) (r 11) | 22 => rxmLW2_22 S0 ws S (r 8) (r 9) (r 10) (r 11) | 23 => rxmLW2_23 S0 ws S (r 8) | _ => 0
def rxPLW2 (S0 : Nat → Int → Int) (ws : List Int) : Prop := rxP242 S0 ws
def rxPSLW2 (S0 : Nat → Int → Int) (ws : List Int) (S : Nat → Int → Int) (w : Option Int) : Prop := rxPS242 S0 ws S w ∧ (True ∧ True ∧ S 480 8 = 0)
theorem rxkLW2_1 {S0 : Nat → Int → Int} {ws : List Int} {S : Nat → Int → Int} (hP : rxPLW2 S0 ws) (hin : bx_same rxL (bx_mdl rxC242.2.2.1) S0 S) (I0 : bx_Inv rxL S) (hinv : rxILW2_1 S0 ws S)  : rxPBX S [480, 0] ∧ ∀ (S' : Nat → Int → Int), rxPSBX S [480, 0] S' none → bx_Inv rxL S' → bx_same rxL (bx_mdl rxCBX.2.2.1) S S' → rxILW2_2 S0 ws S' ∧ rxmLW2_2 S0 ws S' < rxmLW2_1 S0 ws S := by
  obtain ⟨hI, hx⟩ := hinv
  have g_ := rxk242_1 hP hin I0 hI
  exact ⟨g_.1, fun S' hq I1 hsm => ⟨⟨(g_.2 S' hq I1 hsm).1, trivial⟩, (g_.2 S' hq I1 hsm).2⟩⟩
theorem rxsLW2_1 {X : (Nat → Int → Int) → Prop} {S0 : Nat → Int → Int} {ws : List Int} (hP : rxPLW2 S0 ws) : rx_obK X S0 rxC242.2.2.1 rxCBX.2.2.1 (rxILW2 S0 ws) (rxmLW2 S0 ws) 1 2 rxzLW2_1 rxzLW2_2 [.inr (3, (0, 480)), .inr (0, (0, 0))] none rxPBX rxPSBX := by
  intro S r hinv hXS I0 hin hs_ hf_
  have b_ := bx_bds_sat hs_
  have f_ := bx_fcl_ok hs_.1 hf_
  have g := rxkLW2_1 hP hin I0 hinv 
  have ea : List.map (bx_num r) [.inr (3, (0, 480)), .inr (0, (0, 0))] = [480, 0] := by
    simp only [List.map_cons, List.map_nil, bx_xv_ok hs_.1]
    rfl
  rw [ea]
  refine ⟨g.1, fun S' w r' hPS hX' I1 hsm hr hw hs' => ?_⟩
  have hw : w = none := hPS.1
  subst hw
  have g2 := g.2 S' hPS I1 hsm
  show rxILW2_2 S0 ws S' ∧ rxmLW2_2 S0 ws S' < _
  exact g2
theorem rxkLW2_3 {S0 : Nat → Int → Int} {ws : List Int} {S : Nat → Int → Int} (hP : rxPLW2 S0 ws) (hin : bx_same rxL (bx_mdl rxC242.2.2.1) S0 S) (I0 : bx_Inv rxL S) (hinv : rxILW2_3 S0 ws S)  : rxPRL S [480] ∧ ∀ (S' : Nat → Int → Int), rxPSRL S [480] S' none → bx_Inv rxL S' → bx_same rxL (bx_mdl rxCRL.2.2.1) S S' → rxILW2_4 S0 ws S' ∧ rxmLW2_4 S0 ws S' < rxmLW2_3 S0 ws S := by
  obtain ⟨hI, hx⟩ := hinv
  have g_ := rxk242_3 hP hin I0 hI
  exact ⟨g_.1, fun S' hq I1 hsm => ⟨⟨(g_.2 S' hq I1 hsm).1, trivial⟩, (g_.2 S' hq I1 hsm).2⟩⟩
theorem rxsLW2_3 {X : (Nat → Int → Int) → Prop} {S0 : Nat → Int → Int} {ws : List Int} (hP : rxPLW2 S0 ws) : rx_obK X S0 rxC242.2.2.1 rxCRL.2.2.1 (rxILW2 S0 ws) (rxmLW2 S0 ws) 3 4 rxzLW2_3 rxzLW2_4 [.inr (3, (0, 480))] none rxPRL rxPSRL := by
  intro S r hinv hXS I0 hin hs_ hf_
  have b_ := bx_bds_sat hs_
  have f_ := bx_fcl_ok hs_.1 hf_
  have g := rxkLW2_3 hP hin I0 hinv 
  have ea : List.map (bx_num r) [.inr (3, (0, 480))] = [480] := by
    simp only [List.map_cons, List.map_nil, bx_xv_ok hs_.1]
    rfl
  rw [ea]
  refine ⟨g.1, fun S' w r' hPS hX' I1 hsm hr hw hs' => ?_⟩
  have hw : w = none := hPS.1
  subst hw
  have g2 := g.2 S' hPS I1 hsm
  show rxILW2_4 S0 ws S' ∧ rxmLW2_4 S0 ws S' < _
  exact g2
theorem rxkLW2_6 {S0 : Nat → Int → Int} {ws : List Int} {S : Nat → Int → Int} (hP : rxPLW2 S0 ws) (hin : bx_same rxL (bx_mdl rxC242.2.2.1) S0 S) (I0 : bx_Inv rxL S) (hinv : rxILW2_6 S0 ws S)  : rxPNX S [480] ∧ ∀ (S' : Nat → Int → Int), rxPSNX S [480] S' none → bx_Inv rxL S' → bx_same rxL (bx_mdl rxCNX.2.2.1) S S' → rxILW2_7 S0 ws S' ∧ rxmLW2_7 S0 ws S' < rxmLW2_6 S0 ws S := by
  obtain ⟨hI, hx⟩ := hinv
  have g_ := rxk242_6 hP hin I0 hI
  exact ⟨g_.1, fun S' hq I1 hsm => ⟨⟨(g_.2 S' hq I1 hsm).1, trivial⟩, (g_.2 S' hq I1 hsm).2⟩⟩
theorem rxsLW2_6 {X : (Nat → Int → Int) → Prop} {S0 : Nat → Int → Int} {ws : List Int} (hP : rxPLW2 S0 ws) : rx_obK X S0 rxC242.2.2.1 rxCNX.2.2.1 (rxILW2 S0 ws) (rxmLW2 S0 ws) 6 7 rxzLW2_6 rxzLW2_7 [.inr (3, (0, 480))] none rxPNX rxPSNX := by
  intro S r hinv hXS I0 hin hs_ hf_
  have b_ := bx_bds_sat hs_
  have f_ := bx_fcl_ok hs_.1 hf_
  have g := rxkLW2_6 hP hin I0 hinv 
  have ea : List.map (bx_num r) [.inr (3, (0, 480))] = [480] := by
    simp only [List.map_cons, List.map_nil, bx_xv_ok hs_.1]
    rfl
  rw [ea]
  refine ⟨g.1, fun S' w r' hPS hX' I1 hsm hr hw hs' => ?_⟩
  have hw : w = none := hPS.1
  subst hw
  have g2 := g.2 S' hPS I1 hsm
  show rxILW2_7 S0 ws S' ∧ rxmLW2_7 S0 ws S' < _
  exact g2
theorem rxkLW2_8 {S0 : Nat → Int → Int} {ws : List Int} {S : Nat → Int → Int} (hP : rxPLW2 S0 ws) (hin : bx_same rxL (bx_mdl rxC242.2.2.1) S0 S) (I0 : bx_Inv rxL S) (hinv : rxILW2_8 S0 ws S)  : rxPRL S [480] ∧ ∀ (S' : Nat → Int → Int), rxPSRL S [480] S' none → bx_Inv rxL S' → bx_same rxL (bx_mdl rxCRL.2.2.1) S S' → rxILW2_9 S0 ws S' ∧ rxmLW2_9 S0 ws S' < rxmLW2_8 S0 ws S := by
  obtain ⟨hI, hx⟩ := hinv
  have g_ := rxk242_8 hP hin I0 hI
  exact ⟨g_.1, fun S' hq I1 hsm => ⟨⟨(g_.2 S' hq I1 hsm).1, trivial⟩, (g_.2 S' hq I1 hsm).2⟩⟩
theorem rxsLW2_8 {X : (Nat → Int → Int) → Prop} {S0 : Nat → Int → Int} {ws : List Int} (hP : rxPLW2 S0 ws) : rx_obK X S0 rxC242.2.2.1 rxCRL.2.2.1 (rxILW2 S0 ws) (rxmLW2 S0 ws) 8 9 rxzLW2_8 rxzLW2_9 [.inr (3, (0, 480))] none rxPRL rxPSRL := by
  intro S r hinv hXS I0 hin hs_ hf_
  have b_ := bx_bds_sat hs_
  have f_ := bx_fcl_ok hs_.1 hf_
  have g := rxkLW2_8 hP hin I0 hinv 
  have ea : List.map (bx_num r) [.inr (3, (0, 480))] = [480] := by
    simp only [List.map_cons, List.map_nil, bx_xv_ok hs_.1]
    rfl
  rw [ea]
  refine ⟨g.1, fun S' w r' hPS hX' I1 hsm hr hw hs' => ?_⟩
  have hw : w = none := hPS.1
  subst hw
  have g2 := g.2 S' hPS I1 hsm
  show rxILW2_9 S0 ws S' ∧ rxmLW2_9 S0 ws S' < _
  exact g2
theorem rxkLW2_10 {S0 : Nat → Int → Int} {ws : List Int} {S : Nat → Int → Int} (hP : rxPLW2 S0 ws) (hin : bx_same rxL (bx_mdl rxC242.2.2.1) S0 S) (I0 : bx_Inv rxL S) (hinv : rxILW2_10 S0 ws S)  : rxPET2 S [480] ∧ ∀ (S' : Nat → Int → Int), rxPSET2 S [480] S' none → bx_Inv rxL S' → bx_same rxL (bx_mdl rxCET2.2.2.1) S S' → rxILW2_11 S0 ws S' ∧ rxmLW2_11 S0 ws S' < rxmLW2_10 S0 ws S := by
  obtain ⟨hI, hx⟩ := hinv
  have g_ := rxk242_10 hP hin I0 hI
  exact ⟨g_.1, fun S' hq I1 hsm => ⟨⟨(g_.2 S' hq.2.1 I1 hsm).1, hq.2.2⟩, (g_.2 S' hq.2.1 I1 hsm).2⟩⟩
theorem rxsLW2_10 {X : (Nat → Int → Int) → Prop} {S0 : Nat → Int → Int} {ws : List Int} (hP : rxPLW2 S0 ws) : rx_obK X S0 rxC242.2.2.1 rxCET2.2.2.1 (rxILW2 S0 ws) (rxmLW2 S0 ws) 10 11 rxzLW2_10 rxzLW2_11 [.inr (3, (0, 480))] none rxPET2 rxPSET2 := by
  intro S r hinv hXS I0 hin hs_ hf_
  have b_ := bx_bds_sat hs_
  have f_ := bx_fcl_ok hs_.1 hf_
  have g := rxkLW2_10 hP hin I0 hinv 
  have ea : List.map (bx_num r) [.inr (3, (0, 480))] = [480] := by
    simp only [List.map_cons, List.map_nil, bx_xv_ok hs_.1]
    rfl
  rw [ea]
  refine ⟨g.1, fun S' w r' hPS hX' I1 hsm hr hw hs' => ?_⟩
  have hw : w = none := hPS.1
  subst hw
  have g2 := g.2 S' hPS I1 hsm
  show rxILW2_11 S0 ws S' ∧ rxmLW2_11 S0 ws S' < _
  exact g2
theorem rxtLW2_13 {S0 : Nat → Int → Int} {ws : List Int} {S : Nat → Int → Int} {base a v : Int} (hP : rxPLW2 S0 ws) (hin : bx_same rxL (bx_mdl rxC242.2.2.1) S0 S) (I0 : bx_Inv rxL S) (hinv : rxILW2_13 S0 ws S base a v) (l8 : 780 ≤ base) (u8 : base ≤ 5280) (l9 : 781 ≤ a) (u9 : a ≤ 5281) (l10 : 0 ≤ v) (u10 : v ≤ 12) : bx_okT rxL (rxL.2.2.1 482 a) v ∧ rxILW2_14 S0 ws (bx_up S 482 a v) base a v ∧ rxmLW2_14 S0 ws (bx_up S 482 a v) base a v < rxmLW2_13 S0 ws S base a v := by
  obtain ⟨hI, hx⟩ := hinv
  obtain ⟨a_, c_, d_⟩ := rxt242_13 hP hin I0 hI l8 u8 l9 u9 l10 u10
  exact ⟨a_, ⟨c_, ((bx_up_ne (by omega))).trans hx⟩, d_⟩
theorem rxsLW2_13 {X : (Nat → Int → Int) → Prop} {S0 : Nat → Int → Int} {ws : List Int} (hP : rxPLW2 S0 ws) (hX : ∀ S S1 : Nat → Int → Int, X S → bx_same rxL (bx_mdl rxC242.2.2.1) S S1 → X S1) : rx_obS X S0 rxC242.2.2.1 (rxILW2 S0 ws) (rxmLW2 S0 ws) 13 14 rxzLW2_13 482 9 10 := by
  intro S r hinv hXS I0 hin hs_ hf_
  have b_ := bx_bds_sat hs_
  have f_ := bx_fcl_ok hs_.1 hf_
  obtain ⟨⟨l8, u8⟩, ⟨l9, u9⟩, ⟨l10, u10⟩, -⟩ := b_
  have g := rxtLW2_13 hP hin I0 hinv l8 u8 l9 u9 l10 u10
  exact ⟨g.1, g.2.1, g.2.2, hX _ _ hXS (rx_same_upR (fun _ _ _ _ _ => rfl) (tc := 0) (n := 6180) (g := 63) rfl (by decide +kernel) l9 u9), rx_same_upR hin (tc := 0) (n := 6180) (g := 63) rfl (by decide +kernel) l9 u9⟩
theorem rxtLW2_16 {S0 : Nat → Int → Int} {ws : List Int} {S : Nat → Int → Int} {base i a v : Int} (hP : rxPLW2 S0 ws) (hin : bx_same rxL (bx_mdl rxC242.2.2.1) S0 S) (I0 : bx_Inv rxL S) (hinv : rxILW2_16 S0 ws S base i a v) (l8 : 780 ≤ base) (u8 : base ≤ 5280) (l9 : 0 ≤ i) (u9 : i ≤ 95) (l10 : 782 ≤ a) (u10 : a ≤ 5377) (l11 : 0 ≤ v) (u11 : v ≤ 400) : bx_okT rxL (rxL.2.2.1 482 a) v ∧ rxILW2_17 S0 ws (bx_up S 482 a v) base i a v ∧ rxmLW2_17 S0 ws (bx_up S 482 a v) base i a v < rxmLW2_16 S0 ws S base i a v := by
  obtain ⟨hI, hx⟩ := hinv
  obtain ⟨a_, c_, d_⟩ := rxt242_16 hP hin I0 hI l8 u8 l9 u9 l10 u10 l11 u11
  exact ⟨a_, ⟨c_, ((bx_up_ne (by omega))).trans hx⟩, d_⟩
theorem rxsLW2_16 {X : (Nat → Int → Int) → Prop} {S0 : Nat → Int → Int} {ws : List Int} (hP : rxPLW2 S0 ws) (hX : ∀ S S1 : Nat → Int → Int, X S → bx_same rxL (bx_mdl rxC242.2.2.1) S S1 → X S1) : rx_obS X S0 rxC242.2.2.1 (rxILW2 S0 ws) (rxmLW2 S0 ws) 16 17 rxzLW2_16 482 10 11 := by
  intro S r hinv hXS I0 hin hs_ hf_
  have b_ := bx_bds_sat hs_
  have f_ := bx_fcl_ok hs_.1 hf_
  obtain ⟨⟨l8, u8⟩, ⟨l9, u9⟩, ⟨l10, u10⟩, ⟨l11, u11⟩, -⟩ := b_
  have g := rxtLW2_16 hP hin I0 hinv l8 u8 l9 u9 l10 u10 l11 u11
  exact ⟨g.1, g.2.1, g.2.2, hX _ _ hXS (rx_same_upR (fun _ _ _ _ _ => rfl) (tc := 0) (n := 6180) (g := 63) rfl (by decide +kernel) l10 u10), rx_same_upR hin (tc := 0) (n := 6180) (g := 63) rfl (by decide +kernel) l10 u10⟩
theorem rxtLW2_19 {S0 : Nat → Int → Int} {ws : List Int} {S : Nat → Int → Int} {base i a v : Int} (hP : rxPLW2 S0 ws) (hin : bx_same rxL (bx_mdl rxC242.2.2.1) S0 S) (I0 : bx_Inv rxL S) (hinv : rxILW2_19 S0 ws S base i a v) (l8 : 780 ≤ base) (u8 : base ≤ 5280) (l9 : 0 ≤ i) (u9 : i ≤ 399) (l10 : 878 ≤ a) (u10 : a ≤ 6176) (l11 : 0 ≤ v) (u11 : v ≤ 30) : bx_okT rxL (rxL.2.2.1 482 a) v ∧ rxILW2_20 S0 ws (bx_up S 482 a v) base i a v ∧ rxmLW2_20 S0 ws (bx_up S 482 a v) base i a v < rxmLW2_19 S0 ws S base i a v := by
  obtain ⟨hI, hx⟩ := hinv
  obtain ⟨a_, c_, d_⟩ := rxt242_19 hP hin I0 hI l8 u8 l9 u9 l10 u10 l11 u11
  exact ⟨a_, ⟨c_, ((bx_up_ne (by omega))).trans hx⟩, d_⟩
theorem rxsLW2_19 {X : (Nat → Int → Int) → Prop} {S0 : Nat → Int → Int} {ws : List Int} (hP : rxPLW2 S0 ws) (hX : ∀ S S1 : Nat → Int → Int, X S → bx_same rxL (bx_mdl rxC242.2.2.1) S S1 → X S1) : rx_obS X S0 rxC242.2.2.1 (rxILW2 S0 ws) (rxmLW2 S0 ws) 19 20 rxzLW2_19 482 10 11 := by
  intro S r hinv hXS I0 hin hs_ hf_
  have b_ := bx_bds_sat hs_
  have f_ := bx_fcl_ok hs_.1 hf_
  obtain ⟨⟨l8, u8⟩, ⟨l9, u9⟩, ⟨l10, u10⟩, ⟨l11, u11⟩, -⟩ := b_
  have g := rxtLW2_19 hP hin I0 hinv l8 u8 l9 u9 l10 u10 l11 u11
  exact ⟨g.1, g.2.1, g.2.2, hX _ _ hXS (rx_same_upR (fun _ _ _ _ _ => rfl) (tc := 0) (n := 6180) (g := 63) rfl (by decide +kernel) l10 u10), rx_same_upR hin (tc := 0) (n := 6180) (g := 63) rfl (by decide +kernel) l10 u10⟩
theorem rxtLW2_21 {S0 : Nat → Int → Int} {ws : List Int} {S : Nat → Int → Int} {base i a v : Int} (hP : rxPLW2 S0 ws) (hin : bx_same rxL (bx_mdl rxC242.2.2.1) S0 S) (I0 : bx_Inv rxL S) (hinv : rxILW2_21 S0 ws S base i a v) (l8 : 780 ≤ base) (u8 : base ≤ 5280) (l9 : 0 ≤ i) (u9 : i ≤ 399) (l10 : 879 ≤ a) (u10 : a ≤ 6177) (l11 : 0 ≤ v) (u11 : v ≤ 1000) : bx_okT rxL (rxL.2.2.1 482 a) v ∧ rxILW2_22 S0 ws (bx_up S 482 a v) base i a v ∧ rxmLW2_22 S0 ws (bx_up S 482 a v) base i a v < rxmLW2_21 S0 ws S base i a v := by
  obtain ⟨hI, hx⟩ := hinv
  obtain ⟨a_, c_, d_⟩ := rxt242_21 hP hin I0 hI l8 u8 l9 u9 l10 u10 l11 u11
  exact ⟨a_, ⟨c_, ((bx_up_ne (by omega))).trans hx⟩, d_⟩
theorem rxsLW2_21 {X : (Nat → Int → Int) → Prop} {S0 : Nat → Int → Int} {ws : List Int} (hP : rxPLW2 S0 ws) (hX : ∀ S S1 : Nat → Int → Int, X S → bx_same rxL (bx_mdl rxC242.2.2.1) S S1 → X S1) : rx_obS X S0 rxC242.2.2.1 (rxILW2 S0 ws) (rxmLW2 S0 ws) 21 22 rxzLW2_21 482 10 11 := by
  intro S r hinv hXS I0 hin hs_ hf_
  have b_ := bx_bds_sat hs_
  have f_ := bx_fcl_ok hs_.1 hf_
  obtain ⟨⟨l8, u8⟩, ⟨l9, u9⟩, ⟨l10, u10⟩, ⟨l11, u11⟩, -⟩ := b_
  have g := rxtLW2_21 hP hin I0 hinv l8 u8 l9 u9 l10 u10 l11 u11
  exact ⟨g.1, g.2.1, g.2.2, hX _ _ hXS (rx_same_upR (fun _ _ _ _ _ => rfl) (tc := 0) (n := 6180) (g := 63) rfl (by decide +kernel) l10 u10), rx_same_upR hin (tc := 0) (n := 6180) (g := 63) rfl (by decide +kernel) l10 u10⟩
theorem rxcLW2_0_0 {S0 : Nat → Int → Int} {ws : List Int} {S : Nat → Int → Int} {x8 : Int} (hP : rxPLW2 S0 ws) (hin : bx_same rxL (bx_mdl rxC242.2.2.1) S0 S) (I0 : bx_Inv rxL S) (hinv : rxILW2_0 S0 ws S) (l8 : 0 ≤ x8) (u8 : x8 ≤ 5) (f0 : x8 ≠ 6) (e0 : (bx_up S 480 0 0) 482 3 = x8) : (True) ∧ (True) ∧ rxILW2_1 S0 ws (bx_up S 480 0 0) ∧ rxmLW2_1 S0 ws (bx_up S 480 0 0) < rxmLW2_0 S0 ws S := by
  obtain ⟨hI, hx⟩ := hinv
  obtain ⟨a_, b_, c_, d_⟩ := rxc242_0_0 hP hin I0 hI l8 u8 f0 e0
  exact ⟨a_, b_, ⟨c_, trivial⟩, d_⟩
theorem rxgLW2_0_0 {X : (Nat → Int → Int) → Prop} {S0 : Nat → Int → Int} {ws : List Int} (hP : rxPLW2 S0 ws) : bx_obC rxL X S0 rxC242.2.2.1 (rxILW2 S0 ws) (rxmLW2 S0 ws) 0 rxzLW2_0 rxoLW2_0_0 := by
  intro S S' r r' hinv hX hin hsm_ hseg
  obtain ⟨I0, I1, h0_, hr_, b_, f_, d_⟩ := bx_cl (evs := [(0, (0, 482), (0, 3), .inr (0, (8, 0))), (1, (0, 480), (0, 0), .inr (0, (0, 0)))]) (fvs := [(3, (8, 0), (0, 6), (0, 0))]) hseg (by decide +kernel) (by decide +kernel)
  have hinv : rxILW2_0 S0 ws S := hinv
  obtain ⟨⟨l8, u8⟩, -⟩ := b_
  obtain ⟨f0, -⟩ := f_
  obtain ⟨e0, ⟨T1, w_, w1⟩⟩ := d_
  subst w1
  subst w_
  have g := rxcLW2_0_0 hP hin I0 hinv l8 u8 f0 e0
  refine ⟨bx_narP_ok (l := []) g.1, bx_nfP_ok h0_ (fvs := []) (by decide +kernel) g.2.1, ?_, ?_⟩
  · show rxILW2_1 S0 ws (bx_up T1 480 (0) (0))
    exact g.2.2.1
  · show rxmLW2_1 S0 ws (bx_up T1 480 (0) (0)) < rxmLW2_0 S0 ws T1
    exact g.2.2.2
theorem rxdLW2_0_0 {S0 : Nat → Int → Int} {ws : List Int} {S : Nat → Int → Int} {x8 x9 x10 : Int} (hP : rxPLW2 S0 ws) (hin : bx_same rxL (bx_mdl rxC242.2.2.1) S0 S) (hin2 : bx_same rxL (bx_mdl rxC242.2.2.1) S (bx_up (bx_up (bx_up (bx_up S 480 0 0) 480 8 0) 480 1 ((-5))) 481 5 x10)) (I0 : bx_Inv rxL S) (I1 : bx_Inv rxL (bx_up (bx_up (bx_up (bx_up S 480 0 0) 480 8 0) 480 1 ((-5))) 481 5 x10)) (hinv : rxILW2_0 S0 ws S) (l8 : 6 ≤ x8) (u8 : x8 ≤ 6) (l9 : (-2147483648) ≤ x9) (u9 : x9 ≤ 2147483647) (l10 : (-2147483648) ≤ x10) (u10 : x10 ≤ 2147483647) (e4 : (bx_up S 480 0 0) 482 3 = x8) (e1 : (bx_up (bx_up (bx_up S 480 0 0) 480 8 0) 480 1 ((-5))) 481 5 = x9) : (True) ∧ rxPSLW2 S0 ws (bx_up (bx_up (bx_up (bx_up S 480 0 0) 480 8 0) 480 1 ((-5))) 481 5 x10) (some ((-5))) := by
  obtain ⟨hI, hx⟩ := hinv
  obtain ⟨a_, c_⟩ := rxd242_0_0 hP hin hin2 I0 I1 hI l8 u8 l9 u9 l10 u10 e4 e1
  exact ⟨a_, c_, ⟨True.intro, True.intro, (bx_up_ne (by omega)).trans ((bx_up_ne (by omega)).trans (bx_up_at))⟩⟩
theorem rxfLW2_0_0 {X : (Nat → Int → Int) → Prop} {S0 : Nat → Int → Int} {ws : List Int} (hP : rxPLW2 S0 ws) : bx_obE rxL X S0 rxC242.2.2.1 (rxILW2 S0 ws) (rxPSLW2 S0 ws) 0 rxzLW2_0 rxeLW2_0_0 := by
  intro S S' r r' hinv hX hin hsm_ hseg
  obtain ⟨I0, I1, h0_, hr_, b_, f_, d_⟩ := bx_cl (evs := [(1, (0, 481), (0, 5), .inr (0, (10, 0))), (0, (0, 481), (0, 5), .inr (0, (9, 0))), (1, (0, 480), (0, 1), .inr (0, (0, (-5)))), (1, (0, 480), (0, 8), .inr (0, (0, 0))), (0, (0, 482), (0, 3), .inr (0, (8, 0))), (1, (0, 480), (0, 0), .inr (0, (0, 0)))]) (fvs := []) hseg (by decide +kernel) (by decide +kernel)
  have hinv : rxILW2_0 S0 ws S := hinv
  obtain ⟨⟨l8, u8⟩, ⟨l9, u9⟩, ⟨l10, u10⟩, -⟩ := b_
  obtain ⟨T0, ⟨e1, ⟨T2, ⟨T3, ⟨e4, ⟨T5, w_, w5⟩⟩, w3⟩, w2⟩⟩, w0⟩ := d_
  subst w0
  subst w2
  subst w3
  subst w5
  subst w_
  have g := rxdLW2_0_0 hP hin hsm_ I0 I1 hinv l8 u8 l9 u9 l10 u10 e4 e1
  refine ⟨bx_narP_ok (l := []) g.1, ?_⟩
  show rxPSLW2 S0 ws (bx_up (bx_up (bx_up (bx_up T5 480 (0) (0)) 480 (8) (0)) 480 (1) ((-5))) 481 (5) (r' 10)) (some (bx_num r' (.inr (0, (0, (-5))))))
  rw [bx_xv_ok h0_]
  exact g.2
theorem rxcLW2_2_0 {S0 : Nat → Int → Int} {ws : List Int} {S : Nat → Int → Int} (hP : rxPLW2 S0 ws) (hin : bx_same rxL (bx_mdl rxC242.2.2.1) S0 S) (I0 : bx_Inv rxL S) (hinv : rxILW2_2 S0 ws S)  : (True) ∧ (True) ∧ rxILW2_3 S0 ws S ∧ rxmLW2_3 S0 ws S < rxmLW2_2 S0 ws S := by
  obtain ⟨hI, hx⟩ := hinv
  obtain ⟨a_, b_, c_, d_⟩ := rxc242_2_0 hP hin I0 hI
  exact ⟨a_, b_, ⟨c_, trivial⟩, d_⟩
theorem rxgLW2_2_0 {X : (Nat → Int → Int) → Prop} {S0 : Nat → Int → Int} {ws : List Int} (hP : rxPLW2 S0 ws) : bx_obC rxL X S0 rxC242.2.2.1 (rxILW2 S0 ws) (rxmLW2 S0 ws) 2 rxzLW2_2 rxoLW2_2_0 := by
  intro S S' r r' hinv hX hin hsm_ hseg
  obtain ⟨I0, I1, h0_, hr_, b_, f_, d_⟩ := bx_cl (evs := []) (fvs := []) hseg (by decide +kernel) (by decide +kernel)
  have hinv : rxILW2_2 S0 ws S := hinv
  have w_ := d_
  subst w_
  have g := rxcLW2_2_0 hP hin I0 hinv 
  refine ⟨bx_narP_ok (l := []) g.1, bx_nfP_ok h0_ (fvs := []) (by decide +kernel) g.2.1, ?_, ?_⟩
  · show rxILW2_3 S0 ws S'
    exact g.2.2.1
  · show rxmLW2_3 S0 ws S' < rxmLW2_2 S0 ws S'
    exact g.2.2.2
theorem rxcLW2_4_0 {S0 : Nat → Int → Int} {ws : List Int} {S : Nat → Int → Int} {x8 x9 : Int} (hP : rxPLW2 S0 ws) (hin : bx_same rxL (bx_mdl rxC242.2.2.1) S0 S) (I0 : bx_Inv rxL S) (hinv : rxILW2_4 S0 ws S) (l8 : 0 ≤ x8) (u8 : x8 ≤ 0) (l9 : 0 ≤ x9) (u9 : x9 ≤ 2) (f0 : x9 ≠ 3) (e1 : S 480 14 = x8) (e0 : S 480 11 = x9) : (True) ∧ (True) ∧ rxILW2_10 S0 ws S ∧ rxmLW2_10 S0 ws S < rxmLW2_4 S0 ws S := by
  obtain ⟨hI, hx⟩ := hinv
  obtain ⟨a_, b_, c_, d_⟩ := rxc242_4_0 hP hin I0 hI l8 u8 l9 u9 f0 e1 e0
  exact ⟨a_, b_, ⟨c_, trivial⟩, d_⟩
theorem rxgLW2_4_0 {X : (Nat → Int → Int) → Prop} {S0 : Nat → Int → Int} {ws : List Int} (hP : rxPLW2 S0 ws) : bx_obC rxL X S0 rxC242.2.2.1 (rxILW2 S0 ws) (rxmLW2 S0 ws) 4 rxzLW2_4 rxoLW2_4_0 := by
  intro S S' r r' hinv hX hin hsm_ hseg
  obtain ⟨I0, I1, h0_, hr_, b_, f_, d_⟩ := bx_cl (evs := [(0, (0, 480), (0, 11), .inr (0, (9, 0))), (0, (0, 480), (0, 14), .inr (0, (8, 0)))]) (fvs := [(3, (9, 0), (0, 3), (0, 0))]) hseg (by decide +kernel) (by decide +kernel)
  have hinv : rxILW2_4 S0 ws S := hinv
  obtain ⟨⟨l8, u8⟩, ⟨l9, u9⟩, -⟩ := b_
  obtain ⟨f0, -⟩ := f_
  obtain ⟨e0, ⟨e1, w_⟩⟩ := d_
  subst w_
  have g := rxcLW2_4_0 hP hin I0 hinv l8 u8 l9 u9 f0 e1 e0
  refine ⟨bx_narP_ok (l := []) g.1, bx_nfP_ok h0_ (fvs := []) (by decide +kernel) g.2.1, ?_, ?_⟩
  · show rxILW2_10 S0 ws S'
    exact g.2.2.1
  · show rxmLW2_10 S0 ws S' < rxmLW2_4 S0 ws S'
    exact g.2.2.2
theorem rxcLW2_4_1 {S0 : Nat → Int → Int} {ws : List Int} {S : Nat → Int → Int} {x8 x9 x10 : Int} (hP : rxPLW2 S0 ws) (hin : bx_same rxL (bx_mdl rxC242.2.2.1) S0 S) (I0 : bx_Inv rxL S) (hinv : rxILW2_4 S0 ws S) (l8 : 0 ≤ x8) (u8 : x8 ≤ 0) (l9 : 3 ≤ x9) (u9 : x9 ≤ 3) (l10 : (-9223372036854775808) ≤ x10) (u10 : x10 ≤ 9223372036854775807) (f0 : x10 ≠ 59) (e2 : S 480 14 = x8) (e1 : S 480 11 = x9) (e0 : S 480 12 = x10) : (True) ∧ (True) ∧ rxILW2_10 S0 ws S ∧ rxmLW2_10 S0 ws S < rxmLW2_4 S0 ws S := by
  obtain ⟨hI, hx⟩ := hinv
  obtain ⟨a_, b_, c_, d_⟩ := rxc242_4_1 hP hin I0 hI l8 u8 l9 u9 l10 u10 f0 e2 e1 e0
  exact ⟨a_, b_, ⟨c_, trivial⟩, d_⟩
theorem rxgLW2_4_1 {X : (Nat → Int → Int) → Prop} {S0 : Nat → Int → Int} {ws : List Int} (hP : rxPLW2 S0 ws) : bx_obC rxL X S0 rxC242.2.2.1 (rxILW2 S0 ws) (rxmLW2 S0 ws) 4 rxzLW2_4 rxoLW2_4_1 := by
  intro S S' r r' hinv hX hin hsm_ hseg
  obtain ⟨I0, I1, h0_, hr_, b_, f_, d_⟩ := bx_cl (evs := [(0, (0, 480), (0, 12), .inr (1, (10, 0))), (0, (0, 480), (0, 11), .inr (0, (9, 0))), (0, (0, 480), (0, 14), .inr (0, (8, 0)))]) (fvs := [(3, (10, 0), (0, 59), (0, 0))]) hseg (by decide +kernel) (by decide +kernel)
  have hinv : rxILW2_4 S0 ws S := hinv
  obtain ⟨⟨l8, u8⟩, ⟨l9, u9⟩, ⟨l10, u10⟩, -⟩ := b_
  obtain ⟨f0, -⟩ := f_
  obtain ⟨e0, ⟨e1, ⟨e2, w_⟩⟩⟩ := d_
  subst w_
  have g := rxcLW2_4_1 hP hin I0 hinv l8 u8 l9 u9 l10 u10 f0 e2 e1 e0
  refine ⟨bx_narP_ok (l := []) g.1, bx_nfP_ok h0_ (fvs := []) (by decide +kernel) g.2.1, ?_, ?_⟩
  · show rxILW2_10 S0 ws S'
    exact g.2.2.1
  · show rxmLW2_10 S0 ws S' < rxmLW2_4 S0 ws S'
    exact g.2.2.2
theorem rxcLW2_4_2 {S0 : Nat → Int → Int} {ws : List Int} {S : Nat → Int → Int} {x8 x9 x10 : Int} (hP : rxPLW2 S0 ws) (hin : bx_same rxL (bx_mdl rxC242.2.2.1) S0 S) (I0 : bx_Inv rxL S) (hinv : rxILW2_4 S0 ws S) (l8 : 0 ≤ x8) (u8 : x8 ≤ 0) (l9 : 3 ≤ x9) (u9 : x9 ≤ 3) (l10 : 59 ≤ x10) (u10 : x10 ≤ 59) (e2 : S 480 14 = x8) (e1 : S 480 11 = x9) (e0 : S 480 12 = x10) : (True) ∧ (True) ∧ rxILW2_6 S0 ws S ∧ rxmLW2_6 S0 ws S < rxmLW2_4 S0 ws S := by
  obtain ⟨hI, hx⟩ := hinv
  obtain ⟨a_, b_, c_, d_⟩ := rxc242_4_2 hP hin I0 hI l8 u8 l9 u9 l10 u10 e2 e1 e0
  exact ⟨a_, b_, ⟨c_, trivial⟩, d_⟩
theorem rxgLW2_4_2 {X : (Nat → Int → Int) → Prop} {S0 : Nat → Int → Int} {ws : List Int} (hP : rxPLW2 S0 ws) : bx_obC rxL X S0 rxC242.2.2.1 (rxILW2 S0 ws) (rxmLW2 S0 ws) 4 rxzLW2_4 rxoLW2_4_2 := by
  intro S S' r r' hinv hX hin hsm_ hseg
  obtain ⟨I0, I1, h0_, hr_, b_, f_, d_⟩ := bx_cl (evs := [(0, (0, 480), (0, 12), .inr (1, (10, 0))), (0, (0, 480), (0, 11), .inr (0, (9, 0))), (0, (0, 480), (0, 14), .inr (0, (8, 0)))]) (fvs := []) hseg (by decide +kernel) (by decide +kernel)
  have hinv : rxILW2_4 S0 ws S := hinv
  obtain ⟨⟨l8, u8⟩, ⟨l9, u9⟩, ⟨l10, u10⟩, -⟩ := b_
  obtain ⟨e0, ⟨e1, ⟨e2, w_⟩⟩⟩ := d_
  subst w_
  have g := rxcLW2_4_2 hP hin I0 hinv l8 u8 l9 u9 l10 u10 e2 e1 e0
  refine ⟨bx_narP_ok (l := []) g.1, bx_nfP_ok h0_ (fvs := []) (by decide +kernel) g.2.1, ?_, ?_⟩
  · show rxILW2_6 S0 ws S'
    exact g.2.2.1
  · show rxmLW2_6 S0 ws S' < rxmLW2_4 S0 ws S'
    exact g.2.2.2
theorem rxcLW2_4_3 {S0 : Nat → Int → Int} {ws : List Int} {S : Nat → Int → Int} {x8 : Int} (hP : rxPLW2 S0 ws) (hin : bx_same rxL (bx_mdl rxC242.2.2.1) S0 S) (I0 : bx_Inv rxL S) (hinv : rxILW2_4 S0 ws S) (l8 : 1 ≤ x8) (u8 : x8 ≤ 1) (f0 : x8 ≠ 0) (e0 : S 480 14 = x8) : (True) ∧ (True) ∧ rxILW2_10 S0 ws S ∧ rxmLW2_10 S0 ws S < rxmLW2_4 S0 ws S := by
  obtain ⟨hI, hx⟩ := hinv
  obtain ⟨a_, b_, c_, d_⟩ := rxc242_4_3 hP hin I0 hI l8 u8 f0 e0
  exact ⟨a_, b_, ⟨c_, trivial⟩, d_⟩
theorem rxgLW2_4_3 {X : (Nat → Int → Int) → Prop} {S0 : Nat → Int → Int} {ws : List Int} (hP : rxPLW2 S0 ws) : bx_obC rxL X S0 rxC242.2.2.1 (rxILW2 S0 ws) (rxmLW2 S0 ws) 4 rxzLW2_4 rxoLW2_4_3 := by
  intro S S' r r' hinv hX hin hsm_ hseg
  obtain ⟨I0, I1, h0_, hr_, b_, f_, d_⟩ := bx_cl (evs := [(0, (0, 480), (0, 14), .inr (0, (8, 0)))]) (fvs := [(3, (8, 0), (0, 0), (0, 0))]) hseg (by decide +kernel) (by decide +kernel)
  have hinv : rxILW2_4 S0 ws S := hinv
  obtain ⟨⟨l8, u8⟩, -⟩ := b_
  obtain ⟨f0, -⟩ := f_
  obtain ⟨e0, w_⟩ := d_
  subst w_
  have g := rxcLW2_4_3 hP hin I0 hinv l8 u8 f0 e0
  refine ⟨bx_narP_ok (l := []) g.1, bx_nfP_ok h0_ (fvs := []) (by decide +kernel) g.2.1, ?_, ?_⟩
  · show rxILW2_10 S0 ws S'
    exact g.2.2.1
  · show rxmLW2_10 S0 ws S' < rxmLW2_4 S0 ws S'
    exact g.2.2.2
theorem rxcLW2_5_0 {S0 : Nat → Int → Int} {ws : List Int} {S : Nat → Int → Int} {x8 x9 : Int} (hP : rxPLW2 S0 ws) (hin : bx_same rxL (bx_mdl rxC242.2.2.1) S0 S) (I0 : bx_Inv rxL S) (hinv : rxILW2_5 S0 ws S) (l8 : 0 ≤ x8) (u8 : x8 ≤ 0) (l9 : 0 ≤ x9) (u9 : x9 ≤ 2) (f0 : x9 ≠ 3) (e1 : S 480 14 = x8) (e0 : S 480 11 = x9) : (True) ∧ (True) ∧ rxILW2_10 S0 ws S ∧ rxmLW2_10 S0 ws S < rxmLW2_5 S0 ws S := by
  obtain ⟨hI, hx⟩ := hinv
  obtain ⟨a_, b_, c_, d_⟩ := rxc242_5_0 hP hin I0 hI l8 u8 l9 u9 f0 e1 e0
  exact ⟨a_, b_, ⟨c_, trivial⟩, d_⟩
theorem rxgLW2_5_0 {X : (Nat → Int → Int) → Prop} {S0 : Nat → Int → Int} {ws : List Int} (hP : rxPLW2 S0 ws) : bx_obC rxL X S0 rxC242.2.2.1 (rxILW2 S0 ws) (rxmLW2 S0 ws) 5 rxzLW2_5 rxoLW2_5_0 := by
  intro S S' r r' hinv hX hin hsm_ hseg
  obtain ⟨I0, I1, h0_, hr_, b_, f_, d_⟩ := bx_cl (evs := [(0, (0, 480), (0, 11), .inr (0, (9, 0))), (0, (0, 480), (0, 14), .inr (0, (8, 0)))]) (fvs := [(3, (9, 0), (0, 3), (0, 0))]) hseg (by decide +kernel) (by decide +kernel)
  have hinv : rxILW2_5 S0 ws S := hinv
  obtain ⟨⟨l8, u8⟩, ⟨l9, u9⟩, -⟩ := b_
  obtain ⟨f0, -⟩ := f_
  obtain ⟨e0, ⟨e1, w_⟩⟩ := d_
  subst w_
  have g := rxcLW2_5_0 hP hin I0 hinv l8 u8 l9 u9 f0 e1 e0
  refine ⟨bx_narP_ok (l := []) g.1, bx_nfP_ok h0_ (fvs := []) (by decide +kernel) g.2.1, ?_, ?_⟩
  · show rxILW2_10 S0 ws S'
    exact g.2.2.1
  · show rxmLW2_10 S0 ws S' < rxmLW2_5 S0 ws S'
    exact g.2.2.2
theorem rxcLW2_5_1 {S0 : Nat → Int → Int} {ws : List Int} {S : Nat → Int → Int} {x8 x9 x10 : Int} (hP : rxPLW2 S0 ws) (hin : bx_same rxL (bx_mdl rxC242.2.2.1) S0 S) (I0 : bx_Inv rxL S) (hinv : rxILW2_5 S0 ws S) (l8 : 0 ≤ x8) (u8 : x8 ≤ 0) (l9 : 3 ≤ x9) (u9 : x9 ≤ 3) (l10 : (-9223372036854775808) ≤ x10) (u10 : x10 ≤ 9223372036854775807) (f0 : x10 ≠ 59) (e2 : S 480 14 = x8) (e1 : S 480 11 = x9) (e0 : S 480 12 = x10) : (True) ∧ (True) ∧ rxILW2_10 S0 ws S ∧ rxmLW2_10 S0 ws S < rxmLW2_5 S0 ws S := by
  obtain ⟨hI, hx⟩ := hinv
  obtain ⟨a_, b_, c_, d_⟩ := rxc242_5_1 hP hin I0 hI l8 u8 l9 u9 l10 u10 f0 e2 e1 e0
  exact ⟨a_, b_, ⟨c_, trivial⟩, d_⟩
theorem rxgLW2_5_1 {X : (Nat → Int → Int) → Prop} {S0 : Nat → Int → Int} {ws : List Int} (hP : rxPLW2 S0 ws) : bx_obC rxL X S0 rxC242.2.2.1 (rxILW2 S0 ws) (rxmLW2 S0 ws) 5 rxzLW2_5 rxoLW2_5_1 := by
  intro S S' r r' hinv hX hin hsm_ hseg
  obtain ⟨I0, I1, h0_, hr_, b_, f_, d_⟩ := bx_cl (evs := [(0, (0, 480), (0, 12), .inr (1, (10, 0))), (0, (0, 480), (0, 11), .inr (0, (9, 0))), (0, (0, 480), (0, 14), .inr (0, (8, 0)))]) (fvs := [(3, (10, 0), (0, 59), (0, 0))]) hseg (by decide +kernel) (by decide +kernel)
  have hinv : rxILW2_5 S0 ws S := hinv
  obtain ⟨⟨l8, u8⟩, ⟨l9, u9⟩, ⟨l10, u10⟩, -⟩ := b_
  obtain ⟨f0, -⟩ := f_
  obtain ⟨e0, ⟨e1, ⟨e2, w_⟩⟩⟩ := d_
  subst w_
  have g := rxcLW2_5_1 hP hin I0 hinv l8 u8 l9 u9 l10 u10 f0 e2 e1 e0
  refine ⟨bx_narP_ok (l := []) g.1, bx_nfP_ok h0_ (fvs := []) (by decide +kernel) g.2.1, ?_, ?_⟩
  · show rxILW2_10 S0 ws S'
    exact g.2.2.1
  · show rxmLW2_10 S0 ws S' < rxmLW2_5 S0 ws S'
    exact g.2.2.2
theorem rxcLW2_5_2 {S0 : Nat → Int → Int} {ws : List Int} {S : Nat → Int → Int} {x8 x9 x10 : Int} (hP : rxPLW2 S0 ws) (hin : bx_same rxL (bx_mdl rxC242.2.2.1) S0 S) (I0 : bx_Inv rxL S) (hinv : rxILW2_5 S0 ws S) (l8 : 0 ≤ x8) (u8 : x8 ≤ 0) (l9 : 3 ≤ x9) (u9 : x9 ≤ 3) (l10 : 59 ≤ x10) (u10 : x10 ≤ 59) (e2 : S 480 14 = x8) (e1 : S 480 11 = x9) (e0 : S 480 12 = x10) : (True) ∧ (True) ∧ rxILW2_6 S0 ws S ∧ rxmLW2_6 S0 ws S < rxmLW2_5 S0 ws S := by
  obtain ⟨hI, hx⟩ := hinv
  obtain ⟨a_, b_, c_, d_⟩ := rxc242_5_2 hP hin I0 hI l8 u8 l9 u9 l10 u10 e2 e1 e0
  exact ⟨a_, b_, ⟨c_, trivial⟩, d_⟩
theorem rxgLW2_5_2 {X : (Nat → Int → Int) → Prop} {S0 : Nat → Int → Int} {ws : List Int} (hP : rxPLW2 S0 ws) : bx_obC rxL X S0 rxC242.2.2.1 (rxILW2 S0 ws) (rxmLW2 S0 ws) 5 rxzLW2_5 rxoLW2_5_2 := by
  intro S S' r r' hinv hX hin hsm_ hseg
  obtain ⟨I0, I1, h0_, hr_, b_, f_, d_⟩ := bx_cl (evs := [(0, (0, 480), (0, 12), .inr (1, (10, 0))), (0, (0, 480), (0, 11), .inr (0, (9, 0))), (0, (0, 480), (0, 14), .inr (0, (8, 0)))]) (fvs := []) hseg (by decide +kernel) (by decide +kernel)
  have hinv : rxILW2_5 S0 ws S := hinv
  obtain ⟨⟨l8, u8⟩, ⟨l9, u9⟩, ⟨l10, u10⟩, -⟩ := b_
  obtain ⟨e0, ⟨e1, ⟨e2, w_⟩⟩⟩ := d_
  subst w_
  have g := rxcLW2_5_2 hP hin I0 hinv l8 u8 l9 u9 l10 u10 e2 e1 e0
  refine ⟨bx_narP_ok (l := []) g.1, bx_nfP_ok h0_ (fvs := []) (by decide +kernel) g.2.1, ?_, ?_⟩
  · show rxILW2_6 S0 ws S'
    exact g.2.2.1
  · show rxmLW2_6 S0 ws S' < rxmLW2_5 S0 ws S'
    exact g.2.2.2
theorem rxcLW2_5_3 {S0 : Nat → Int → Int} {ws : List Int} {S : Nat → Int → Int} {x8 : Int} (hP : rxPLW2 S0 ws) (hin : bx_same rxL (bx_mdl rxC242.2.2.1) S0 S) (I0 : bx_Inv rxL S) (hinv : rxILW2_5 S0 ws S) (l8 : 1 ≤ x8) (u8 : x8 ≤ 1) (f0 : x8 ≠ 0) (e0 : S 480 14 = x8) : (True) ∧ (True) ∧ rxILW2_10 S0 ws S ∧ rxmLW2_10 S0 ws S < rxmLW2_5 S0 ws S := by
  obtain ⟨hI, hx⟩ := hinv
  obtain ⟨a_, b_, c_, d_⟩ := rxc242_5_3 hP hin I0 hI l8 u8 f0 e0
  exact ⟨a_, b_, ⟨c_, trivial⟩, d_⟩
theorem rxgLW2_5_3 {X : (Nat → Int → Int) → Prop} {S0 : Nat → Int → Int} {ws : List Int} (hP : rxPLW2 S0 ws) : bx_obC rxL X S0 rxC242.2.2.1 (rxILW2 S0 ws) (rxmLW2 S0 ws) 5 rxzLW2_5 rxoLW2_5_3 := by
  intro S S' r r' hinv hX hin hsm_ hseg
  obtain ⟨I0, I1, h0_, hr_, b_, f_, d_⟩ := bx_cl (evs := [(0, (0, 480), (0, 14), .inr (0, (8, 0)))]) (fvs := [(3, (8, 0), (0, 0), (0, 0))]) hseg (by decide +kernel) (by decide +kernel)
  have hinv : rxILW2_5 S0 ws S := hinv
  obtain ⟨⟨l8, u8⟩, -⟩ := b_
  obtain ⟨f0, -⟩ := f_
  obtain ⟨e0, w_⟩ := d_
  subst w_
  have g := rxcLW2_5_3 hP hin I0 hinv l8 u8 f0 e0
  refine ⟨bx_narP_ok (l := []) g.1, bx_nfP_ok h0_ (fvs := []) (by decide +kernel) g.2.1, ?_, ?_⟩
  · show rxILW2_10 S0 ws S'
    exact g.2.2.1
  · show rxmLW2_10 S0 ws S' < rxmLW2_5 S0 ws S'
    exact g.2.2.2
theorem rxcLW2_7_0 {S0 : Nat → Int → Int} {ws : List Int} {S : Nat → Int → Int} (hP : rxPLW2 S0 ws) (hin : bx_same rxL (bx_mdl rxC242.2.2.1) S0 S) (I0 : bx_Inv rxL S) (hinv : rxILW2_7 S0 ws S)  : (True) ∧ (True) ∧ rxILW2_8 S0 ws S ∧ rxmLW2_8 S0 ws S < rxmLW2_7 S0 ws S := by
  obtain ⟨hI, hx⟩ := hinv
  obtain ⟨a_, b_, c_, d_⟩ := rxc242_7_0 hP hin I0 hI
  exact ⟨a_, b_, ⟨c_, trivial⟩, d_⟩
theorem rxgLW2_7_0 {X : (Nat → Int → Int) → Prop} {S0 : Nat → Int → Int} {ws : List Int} (hP : rxPLW2 S0 ws) : bx_obC rxL X S0 rxC242.2.2.1 (rxILW2 S0 ws) (rxmLW2 S0 ws) 7 rxzLW2_7 rxoLW2_7_0 := by
  intro S S' r r' hinv hX hin hsm_ hseg
  obtain ⟨I0, I1, h0_, hr_, b_, f_, d_⟩ := bx_cl (evs := []) (fvs := []) hseg (by decide +kernel) (by decide +kernel)
  have hinv : rxILW2_7 S0 ws S := hinv
  have w_ := d_
  subst w_
  have g := rxcLW2_7_0 hP hin I0 hinv 
  refine ⟨bx_narP_ok (l := []) g.1, bx_nfP_ok h0_ (fvs := []) (by decide +kernel) g.2.1, ?_, ?_⟩
  · show rxILW2_8 S0 ws S'
    exact g.2.2.1
  · show rxmLW2_8 S0 ws S' < rxmLW2_7 S0 ws S'
    exact g.2.2.2
theorem rxcLW2_9_0 {S0 : Nat → Int → Int} {ws : List Int} {S : Nat → Int → Int} (hP : rxPLW2 S0 ws) (hin : bx_same rxL (bx_mdl rxC242.2.2.1) S0 S) (I0 : bx_Inv rxL S) (hinv : rxILW2_9 S0 ws S)  : (True) ∧ (True) ∧ rxILW2_5 S0 ws S ∧ rxmLW2_5 S0 ws S < rxmLW2_9 S0 ws S := by
  obtain ⟨hI, hx⟩ := hinv
  obtain ⟨a_, b_, c_, d_⟩ := rxc242_9_0 hP hin I0 hI
  exact ⟨a_, b_, ⟨c_, trivial⟩, d_⟩
theorem rxgLW2_9_0 {X : (Nat → Int → Int) → Prop} {S0 : Nat → Int → Int} {ws : List Int} (hP : rxPLW2 S0 ws) : bx_obC rxL X S0 rxC242.2.2.1 (rxILW2 S0 ws) (rxmLW2 S0 ws) 9 rxzLW2_9 rxoLW2_9_0 := by
  intro S S' r r' hinv hX hin hsm_ hseg
  obtain ⟨I0, I1, h0_, hr_, b_, f_, d_⟩ := bx_cl (evs := []) (fvs := []) hseg (by decide +kernel) (by decide +kernel)
  have hinv : rxILW2_9 S0 ws S := hinv
  have w_ := d_
  subst w_
  have g := rxcLW2_9_0 hP hin I0 hinv 
  refine ⟨bx_narP_ok (l := []) g.1, bx_nfP_ok h0_ (fvs := []) (by decide +kernel) g.2.1, ?_, ?_⟩
  · show rxILW2_5 S0 ws S'
    exact g.2.2.1
  · show rxmLW2_5 S0 ws S' < rxmLW2_9 S0 ws S'
    exact g.2.2.2
theorem rxcLW2_11_0 {S0 : Nat → Int → Int} {ws : List Int} {S : Nat → Int → Int} {x8 x9 : Int} (hP : rxPLW2 S0 ws) (hin : bx_same rxL (bx_mdl rxC242.2.2.1) S0 S) (I0 : bx_Inv rxL S) (hinv : rxILW2_11 S0 ws S) (l8 : 0 ≤ x8) (u8 : x8 ≤ 0) (l9 : 0 ≤ x9) (u9 : x9 ≤ 6) (e1 : S 480 14 = x8) (e0 : S 482 3 = x9) : ((0 ≤ x9 ∧ x9 ≤ 5) ∧ True) ∧ (True) ∧ rxILW2_12 S0 ws S x9 ∧ rxmLW2_12 S0 ws S x9 < rxmLW2_11 S0 ws S := by
  obtain ⟨hI, hx⟩ := hinv
  obtain ⟨a_, b_, c_, d_⟩ := rxc242_11_0 hP hin I0 hI l8 u8 l9 u9 e1 e0
  exact ⟨a_, b_, ⟨c_, hx⟩, d_⟩
theorem rxgLW2_11_0 {X : (Nat → Int → Int) → Prop} {S0 : Nat → Int → Int} {ws : List Int} (hP : rxPLW2 S0 ws) : bx_obC rxL X S0 rxC242.2.2.1 (rxILW2 S0 ws) (rxmLW2 S0 ws) 11 rxzLW2_11 rxoLW2_11_0 := by
  intro S S' r r' hinv hX hin hsm_ hseg
  obtain ⟨I0, I1, h0_, hr_, b_, f_, d_⟩ := bx_cl (evs := [(0, (0, 482), (0, 3), .inr (0, (9, 0))), (0, (0, 480), (0, 14), .inr (0, (8, 0)))]) (fvs := []) hseg (by decide +kernel) (by decide +kernel)
  have hinv : rxILW2_11 S0 ws S := hinv
  obtain ⟨⟨l8, u8⟩, ⟨l9, u9⟩, -⟩ := b_
  obtain ⟨e0, ⟨e1, w_⟩⟩ := d_
  subst w_
  have g := rxcLW2_11_0 hP hin I0 hinv l8 u8 l9 u9 e1 e0
  refine ⟨bx_narP_ok (l := [(9, 0, 5)]) g.1, bx_nfP_ok h0_ (fvs := []) (by decide +kernel) g.2.1, ?_, ?_⟩
  · show rxILW2_12 S0 ws S' (bx_val [(0, 0), (0, 0), (0, 0), (0, 0), (0, 0), (0, 0), (0, 0), (0, 0), (9, 0)] r' 8)
    rw [bx_val_x (n := 8) (e := (9, 0)) h0_ rfl]
    exact g.2.2.1
  · show rxmLW2_12 S0 ws S' (bx_val [(0, 0), (0, 0), (0, 0), (0, 0), (0, 0), (0, 0), (0, 0), (0, 0), (9, 0)] r' 8) < rxmLW2_11 S0 ws S'
    rw [bx_val_x (n := 8) (e := (9, 0)) h0_ rfl]
    exact g.2.2.2
theorem rxdLW2_11_0 {S0 : Nat → Int → Int} {ws : List Int} {S : Nat → Int → Int} {x8 x9 x10 : Int} (hP : rxPLW2 S0 ws) (hin : bx_same rxL (bx_mdl rxC242.2.2.1) S0 S) (hin2 : bx_same rxL (bx_mdl rxC242.2.2.1) S (bx_up (bx_up S 480 1 ((-6))) 481 6 x10)) (I0 : bx_Inv rxL S) (I1 : bx_Inv rxL (bx_up (bx_up S 480 1 ((-6))) 481 6 x10)) (hinv : rxILW2_11 S0 ws S) (l8 : 1 ≤ x8) (u8 : x8 ≤ 1) (l9 : (-2147483648) ≤ x9) (u9 : x9 ≤ 2147483647) (l10 : (-2147483648) ≤ x10) (u10 : x10 ≤ 2147483647) (f0 : x8 ≠ 0) (e3 : S 480 14 = x8) (e1 : (bx_up S 480 1 ((-6))) 481 6 = x9) : (True) ∧ rxPSLW2 S0 ws (bx_up (bx_up S 480 1 ((-6))) 481 6 x10) (some ((-6))) := by
  obtain ⟨hI, hx⟩ := hinv
  obtain ⟨a_, c_⟩ := rxd242_11_0 hP hin hin2 I0 I1 hI l8 u8 l9 u9 l10 u10 f0 e3 e1
  exact ⟨a_, c_, ⟨True.intro, True.intro, ((bx_up_ne (by omega)).trans ((bx_up_ne (by omega)))).trans hx⟩⟩
theorem rxfLW2_11_0 {X : (Nat → Int → Int) → Prop} {S0 : Nat → Int → Int} {ws : List Int} (hP : rxPLW2 S0 ws) : bx_obE rxL X S0 rxC242.2.2.1 (rxILW2 S0 ws) (rxPSLW2 S0 ws) 11 rxzLW2_11 rxeLW2_11_0 := by
  intro S S' r r' hinv hX hin hsm_ hseg
  obtain ⟨I0, I1, h0_, hr_, b_, f_, d_⟩ := bx_cl (evs := [(1, (0, 481), (0, 6), .inr (0, (10, 0))), (0, (0, 481), (0, 6), .inr (0, (9, 0))), (1, (0, 480), (0, 1), .inr (0, (0, (-6)))), (0, (0, 480), (0, 14), .inr (0, (8, 0)))]) (fvs := [(3, (8, 0), (0, 0), (0, 0))]) hseg (by decide +kernel) (by decide +kernel)
  have hinv : rxILW2_11 S0 ws S := hinv
  obtain ⟨⟨l8, u8⟩, ⟨l9, u9⟩, ⟨l10, u10⟩, -⟩ := b_
  obtain ⟨f0, -⟩ := f_
  obtain ⟨T0, ⟨e1, ⟨T2, ⟨e3, w_⟩, w2⟩⟩, w0⟩ := d_
  subst w0
  subst w2
  subst w_
  have g := rxdLW2_11_0 hP hin hsm_ I0 I1 hinv l8 u8 l9 u9 l10 u10 f0 e3 e1
  refine ⟨bx_narP_ok (l := []) g.1, ?_⟩
  show rxPSLW2 S0 ws (bx_up (bx_up T2 480 (1) ((-6))) 481 (6) (r' 10)) (some (bx_num r' (.inr (0, (0, (-6))))))
  rw [bx_xv_ok h0_]
  exact g.2
theorem rxcLW2_12_0 {S0 : Nat → Int → Int} {ws : List Int} {S : Nat → Int → Int} {n3 x9 x10 : Int} (hP : rxPLW2 S0 ws) (hin : bx_same rxL (bx_mdl rxC242.2.2.1) S0 S) (I0 : bx_Inv rxL S) (hinv : rxILW2_12 S0 ws S n3) (l8 : 0 ≤ n3) (u8 : n3 ≤ 5) (l9 : 0 ≤ x9) (u9 : x9 ≤ 4500) (l10 : 0 ≤ x10) (u10 : x10 ≤ 12) (f0 : x9 = 900 * (n3)) (e0 : S 480 16 = x10) : (True) ∧ (True) ∧ rxILW2_13 S0 ws S (x9 + 780) (x9 + 781) x10 ∧ rxmLW2_13 S0 ws S (x9 + 780) (x9 + 781) x10 < rxmLW2_12 S0 ws S n3 := by
  obtain ⟨hI, hx⟩ := hinv
  obtain ⟨a_, b_, c_, d_⟩ := rxc242_12_0 hP hin I0 hI l8 u8 l9 u9 l10 u10 f0 e0
  exact ⟨a_, b_, ⟨c_, hx⟩, d_⟩
theorem rxgLW2_12_0 {X : (Nat → Int → Int) → Prop} {S0 : Nat → Int → Int} {ws : List Int} (hP : rxPLW2 S0 ws) : bx_obC rxL X S0 rxC242.2.2.1 (rxILW2 S0 ws) (rxmLW2 S0 ws) 12 rxzLW2_12 rxoLW2_12_0 := by
  intro S S' r r' hinv hX hin hsm_ hseg
  obtain ⟨I0, I1, h0_, hr_, b_, f_, d_⟩ := bx_cl (evs := [(0, (0, 480), (0, 16), .inr (0, (10, 0)))]) (fvs := [(4, (9, 0), (8, 0), (0, 900))]) hseg (by decide +kernel) (by decide +kernel)
  have hinv : rxILW2_12 S0 ws S (r 8) := hinv
  rw [← hr_ 8 (by decide)] at hinv
  obtain ⟨⟨l8, u8⟩, ⟨l9, u9⟩, ⟨l10, u10⟩, -⟩ := b_
  obtain ⟨f0, -⟩ := f_
  obtain ⟨e0, w_⟩ := d_
  subst w_
  have g := rxcLW2_12_0 hP hin I0 hinv l8 u8 l9 u9 l10 u10 f0 e0
  refine ⟨bx_narP_ok (l := []) g.1, bx_nfP_ok h0_ (fvs := []) (by decide +kernel) g.2.1, ?_, ?_⟩
  · show rxILW2_13 S0 ws S' (bx_val [(0, 0), (0, 0), (0, 0), (0, 0), (0, 0), (0, 0), (0, 0), (0, 0), (9, 780), (9, 781), (10, 0)] r' 8) (bx_val [(0, 0), (0, 0), (0, 0), (0, 0), (0, 0), (0, 0), (0, 0), (0, 0), (9, 780), (9, 781), (10, 0)] r' 9) (bx_val [(0, 0), (0, 0), (0, 0), (0, 0), (0, 0), (0, 0), (0, 0), (0, 0), (9, 780), (9, 781), (10, 0)] r' 10)
    rw [bx_val_x (n := 8) (e := (9, 780)) h0_ rfl, bx_val_x (n := 9) (e := (9, 781)) h0_ rfl, bx_val_x (n := 10) (e := (10, 0)) h0_ rfl]
    exact g.2.2.1
  · show rxmLW2_13 S0 ws S' (bx_val [(0, 0), (0, 0), (0, 0), (0, 0), (0, 0), (0, 0), (0, 0), (0, 0), (9, 780), (9, 781), (10, 0)] r' 8) (bx_val [(0, 0), (0, 0), (0, 0), (0, 0), (0, 0), (0, 0), (0, 0), (0, 0), (9, 780), (9, 781), (10, 0)] r' 9) (bx_val [(0, 0), (0, 0), (0, 0), (0, 0), (0, 0), (0, 0), (0, 0), (0, 0), (9, 780), (9, 781), (10, 0)] r' 10) < rxmLW2_12 S0 ws S' (r 8)
    rw [bx_val_x (n := 8) (e := (9, 780)) h0_ rfl, bx_val_x (n := 9) (e := (9, 781)) h0_ rfl, bx_val_x (n := 10) (e := (10, 0)) h0_ rfl, ← hr_ 8 (by decide)]
    exact g.2.2.2
theorem rxcLW2_14_0 {S0 : Nat → Int → Int} {ws : List Int} {S : Nat → Int → Int} {base a v : Int} (hP : rxPLW2 S0 ws) (hin : bx_same rxL (bx_mdl rxC242.2.2.1) S0 S) (I0 : bx_Inv rxL S) (hinv : rxILW2_14 S0 ws S base a v) (l8 : 780 ≤ base) (u8 : base ≤ 5280) (l9 : 781 ≤ a) (u9 : a ≤ 5281) (l10 : 0 ≤ v) (u10 : v ≤ 12) : (True) ∧ (True) ∧ rxILW2_15 S0 ws S base 0 ∧ rxmLW2_15 S0 ws S base 0 < rxmLW2_14 S0 ws S base a v := by
  obtain ⟨hI, hx⟩ := hinv
  obtain ⟨a_, b_, c_, d_⟩ := rxc242_14_0 hP hin I0 hI l8 u8 l9 u9 l10 u10
  exact ⟨a_, b_, ⟨c_, hx⟩, d_⟩
theorem rxgLW2_14_0 {X : (Nat → Int → Int) → Prop} {S0 : Nat → Int → Int} {ws : List Int} (hP : rxPLW2 S0 ws) : bx_obC rxL X S0 rxC242.2.2.1 (rxILW2 S0 ws) (rxmLW2 S0 ws) 14 rxzLW2_14 rxoLW2_14_0 := by
  intro S S' r r' hinv hX hin hsm_ hseg
  obtain ⟨I0, I1, h0_, hr_, b_, f_, d_⟩ := bx_cl (evs := []) (fvs := []) hseg (by decide +kernel) (by decide +kernel)
  have hinv : rxILW2_14 S0 ws S (r 8) (r 9) (r 10) := hinv
  rw [← hr_ 8 (by decide), ← hr_ 9 (by decide), ← hr_ 10 (by decide)] at hinv
  obtain ⟨⟨l8, u8⟩, ⟨l9, u9⟩, ⟨l10, u10⟩, -⟩ := b_
  have w_ := d_
  subst w_
  have g := rxcLW2_14_0 hP hin I0 hinv l8 u8 l9 u9 l10 u10
  refine ⟨bx_narP_ok (l := []) g.1, bx_nfP_ok h0_ (fvs := []) (by decide +kernel) g.2.1, ?_, ?_⟩
  · show rxILW2_15 S0 ws S' (bx_val [(0, 0), (0, 0), (0, 0), (0, 0), (0, 0), (0, 0), (0, 0), (0, 0), (8, 0), (0, 0)] r' 8) (bx_val [(0, 0), (0, 0), (0, 0), (0, 0), (0, 0), (0, 0), (0, 0), (0, 0), (8, 0), (0, 0)] r' 9)
    rw [bx_val_x (n := 8) (e := (8, 0)) h0_ rfl, bx_val_x (n := 9) (e := (0, 0)) h0_ rfl]
    exact g.2.2.1
  · show rxmLW2_15 S0 ws S' (bx_val [(0, 0), (0, 0), (0, 0), (0, 0), (0, 0), (0, 0), (0, 0), (0, 0), (8, 0), (0, 0)] r' 8) (bx_val [(0, 0), (0, 0), (0, 0), (0, 0), (0, 0), (0, 0), (0, 0), (0, 0), (8, 0), (0, 0)] r' 9) < rxmLW2_14 S0 ws S' (r 8) (r 9) (r 10)
    rw [bx_val_x (n := 8) (e := (8, 0)) h0_ rfl, bx_val_x (n := 9) (e := (0, 0)) h0_ rfl, ← hr_ 8 (by decide), ← hr_ 9 (by decide), ← hr_ 10 (by decide)]
    exact g.2.2.2
theorem rxcLW2_15_0 {S0 : Nat → Int → Int} {ws : List Int} {S : Nat → Int → Int} {base i x10 x11 x12 x13 : Int} (hP : rxPLW2 S0 ws) (hin : bx_same rxL (bx_mdl rxC242.2.2.1) S0 S) (I0 : bx_Inv rxL S) (hinv : rxILW2_15 S0 ws S base i) (l8 : 780 ≤ base) (u8 : base ≤ 5280) (l9 : 0 ≤ i) (u9 : i ≤ 95) (l10 : 0 ≤ x10) (u10 : x10 ≤ 12) (l11 : 1 ≤ x11) (u11 : x11 ≤ 96) (l12 : 782 ≤ x12) (u12 : x12 ≤ 5377) (l13 : 0 ≤ x13) (u13 : x13 ≤ 400) (f0 : x12 = base + 2 + i) (f1 : i < x11) (f2 : x11 = 8 * (x10)) (e1 : S 480 16 = x10) (e0 : S 486 i = x13) : (True) ∧ (True) ∧ rxILW2_16 S0 ws S base i x12 x13 ∧ rxmLW2_16 S0 ws S base i x12 x13 < rxmLW2_15 S0 ws S base i := by
  obtain ⟨hI, hx⟩ := hinv
  obtain ⟨a_, b_, c_, d_⟩ := rxc242_15_0 hP hin I0 hI l8 u8 l9 u9 l10 u10 l11 u11 l12 u12 l13 u13 f0 f1 f2 e1 e0
  exact ⟨a_, b_, ⟨c_, hx⟩, d_⟩
theorem rxgLW2_15_0 {X : (Nat → Int → Int) → Prop} {S0 : Nat → Int → Int} {ws : List Int} (hP : rxPLW2 S0 ws) : bx_obC rxL X S0 rxC242.2.2.1 (rxILW2 S0 ws) (rxmLW2 S0 ws) 15 rxzLW2_15 rxoLW2_15_0 := by
  intro S S' r r' hinv hX hin hsm_ hseg
  obtain ⟨I0, I1, h0_, hr_, b_, f_, d_⟩ := bx_cl (evs := [(0, (0, 486), (9, 0), .inr (0, (13, 0))), (0, (0, 480), (0, 16), .inr (0, (10, 0)))]) (fvs := [(5, (12, 0), (8, 2), (9, 0)), (0, (9, 0), (11, 0), (0, 0)), (4, (11, 0), (10, 0), (0, 8))]) hseg (by decide +kernel) (by decide +kernel)
  have hinv : rxILW2_15 S0 ws S (r 8) (r 9) := hinv
  rw [← hr_ 8 (by decide), ← hr_ 9 (by decide)] at hinv
  obtain ⟨⟨l8, u8⟩, ⟨l9, u9⟩, ⟨l10, u10⟩, ⟨l11, u11⟩, ⟨l12, u12⟩, ⟨l13, u13⟩, -⟩ := b_
  obtain ⟨f0, f1, f2, -⟩ := f_
  obtain ⟨e0, ⟨e1, w_⟩⟩ := d_
  subst w_
  have g := rxcLW2_15_0 hP hin I0 hinv l8 u8 l9 u9 l10 u10 l11 u11 l12 u12 l13 u13 f0 f1 f2 e1 e0
  refine ⟨bx_narP_ok (l := []) g.1, bx_nfP_ok h0_ (fvs := []) (by decide +kernel) g.2.1, ?_, ?_⟩
  · show rxILW2_16 S0 ws S' (bx_val [(0, 0), (0, 0), (0, 0), (0, 0), (0, 0), (0, 0), (0, 0), (0, 0), (8, 0), (9, 0), (12, 0), (13, 0)] r' 8) (bx_val [(0, 0), (0, 0), (0, 0), (0, 0), (0, 0), (0, 0), (0, 0), (0, 0), (8, 0), (9, 0), (12, 0), (13, 0)] r' 9) (bx_val [(0, 0), (0, 0), (0, 0), (0, 0), (0, 0), (0, 0), (0, 0), (0, 0), (8, 0), (9, 0), (12, 0), (13, 0)] r' 10) (bx_val [(0, 0), (0, 0), (0, 0), (0, 0), (0, 0), (0, 0), (0, 0), (0, 0), (8, 0), (9, 0), (12, 0), (13, 0)] r' 11)
    rw [bx_val_x (n := 8) (e := (8, 0)) h0_ rfl, bx_val_x (n := 9) (e := (9, 0)) h0_ rfl, bx_val_x (n := 10) (e := (12, 0)) h0_ rfl, bx_val_x (n := 11) (e := (13, 0)) h0_ rfl]
    exact g.2.2.1
  · show rxmLW2_16 S0 ws S' (bx_val [(0, 0), (0, 0), (0, 0), (0, 0), (0, 0), (0, 0), (0, 0), (0, 0), (8, 0), (9, 0), (12, 0), (13, 0)] r' 8) (bx_val [(0, 0), (0, 0), (0, 0), (0, 0), (0, 0), (0, 0), (0, 0), (0, 0), (8, 0), (9, 0), (12, 0), (13, 0)] r' 9) (bx_val [(0, 0), (0, 0), (0, 0), (0, 0), (0, 0), (0, 0), (0, 0), (0, 0), (8, 0), (9, 0), (12, 0), (13, 0)] r' 10) (bx_val [(0, 0), (0, 0), (0, 0), (0, 0), (0, 0), (0, 0), (0, 0), (0, 0), (8, 0), (9, 0), (12, 0), (13, 0)] r' 11) < rxmLW2_15 S0 ws S' (r 8) (r 9)
    rw [bx_val_x (n := 8) (e := (8, 0)) h0_ rfl, bx_val_x (n := 9) (e := (9, 0)) h0_ rfl, bx_val_x (n := 10) (e := (12, 0)) h0_ rfl, bx_val_x (n := 11) (e := (13, 0)) h0_ rfl, ← hr_ 8 (by decide), ← hr_ 9 (by decide)]
    exact g.2.2.2
theorem rxcLW2_15_1 {S0 : Nat → Int → Int} {ws : List Int} {S : Nat → Int → Int} {base i x10 x11 : Int} (hP : rxPLW2 S0 ws) (hin : bx_same rxL (bx_mdl rxC242.2.2.1) S0 S) (I0 : bx_Inv rxL S) (hinv : rxILW2_15 S0 ws S base i) (l8 : 780 ≤ base) (u8 : base ≤ 5280) (l9 : 0 ≤ i) (u9 : i ≤ 96) (l10 : 0 ≤ x10) (u10 : x10 ≤ 12) (l11 : 0 ≤ x11) (u11 : x11 ≤ 96) (f0 : x11 ≤ i) (f1 : x11 = 8 * (x10)) (e0 : S 480 16 = x10) : (True) ∧ (True) ∧ rxILW2_18 S0 ws S base 0 ∧ rxmLW2_18 S0 ws S base 0 < rxmLW2_15 S0 ws S base i := by
  obtain ⟨hI, hx⟩ := hinv
  obtain ⟨a_, b_, c_, d_⟩ := rxc242_15_1 hP hin I0 hI l8 u8 l9 u9 l10 u10 l11 u11 f0 f1 e0
  exact ⟨a_, b_, ⟨c_, hx⟩, d_⟩
theorem rxgLW2_15_1 {X : (Nat → Int → Int) → Prop} {S0 : Nat → Int → Int} {ws : List Int} (hP : rxPLW2 S0 ws) : bx_obC rxL X S0 rxC242.2.2.1 (rxILW2 S0 ws) (rxmLW2 S0 ws) 15 rxzLW2_15 rxoLW2_15_1 := by
  intro S S' r r' hinv hX hin hsm_ hseg
  obtain ⟨I0, I1, h0_, hr_, b_, f_, d_⟩ := bx_cl (evs := [(0, (0, 480), (0, 16), .inr (0, (10, 0)))]) (fvs := [(1, (11, 0), (9, 0), (0, 0)), (4, (11, 0), (10, 0), (0, 8))]) hseg (by decide +kernel) (by decide +kernel)
  have hinv : rxILW2_15 S0 ws S (r 8) (r 9) := hinv
  rw [← hr_ 8 (by decide), ← hr_ 9 (by decide)] at hinv
  obtain ⟨⟨l8, u8⟩, ⟨l9, u9⟩, ⟨l10, u10⟩, ⟨l11, u11⟩, -⟩ := b_
  obtain ⟨f0, f1, -⟩ := f_
  obtain ⟨e0, w_⟩ := d_
  subst w_
  have g := rxcLW2_15_1 hP hin I0 hinv l8 u8 l9 u9 l10 u10 l11 u11 f0 f1 e0
  refine ⟨bx_narP_ok (l := []) g.1, bx_nfP_ok h0_ (fvs := []) (by decide +kernel) g.2.1, ?_, ?_⟩
  · show rxILW2_18 S0 ws S' (bx_val [(0, 0), (0, 0), (0, 0), (0, 0), (0, 0), (0, 0), (0, 0), (0, 0), (8, 0), (0, 0)] r' 8) (bx_val [(0, 0), (0, 0), (0, 0), (0, 0), (0, 0), (0, 0), (0, 0), (0, 0), (8, 0), (0, 0)] r' 9)
    rw [bx_val_x (n := 8) (e := (8, 0)) h0_ rfl, bx_val_x (n := 9) (e := (0, 0)) h0_ rfl]
    exact g.2.2.1
  · show rxmLW2_18 S0 ws S' (bx_val [(0, 0), (0, 0), (0, 0), (0, 0), (0, 0), (0, 0), (0, 0), (0, 0), (8, 0), (0, 0)] r' 8) (bx_val [(0, 0), (0, 0), (0, 0), (0, 0), (0, 0), (0, 0), (0, 0), (0, 0), (8, 0), (0, 0)] r' 9) < rxmLW2_15 S0 ws S' (r 8) (r 9)
    rw [bx_val_x (n := 8) (e := (8, 0)) h0_ rfl, bx_val_x (n := 9) (e := (0, 0)) h0_ rfl, ← hr_ 8 (by decide), ← hr_ 9 (by decide)]
    exact g.2.2.2
theorem rxcLW2_17_0 {S0 : Nat → Int → Int} {ws : List Int} {S : Nat → Int → Int} {base i a v : Int} (hP : rxPLW2 S0 ws) (hin : bx_same rxL (bx_mdl rxC242.2.2.1) S0 S) (I0 : bx_Inv rxL S) (hinv : rxILW2_17 S0 ws S base i a v) (l8 : 780 ≤ base) (u8 : base ≤ 5280) (l9 : 0 ≤ i) (u9 : i ≤ 95) (l10 : 782 ≤ a) (u10 : a ≤ 5377) (l11 : 0 ≤ v) (u11 : v ≤ 400) : (True) ∧ (True) ∧ rxILW2_15 S0 ws S base (i + 1) ∧ rxmLW2_15 S0 ws S base (i + 1) < rxmLW2_17 S0 ws S base i a v := by
  obtain ⟨hI, hx⟩ := hinv
  obtain ⟨a_, b_, c_, d_⟩ := rxc242_17_0 hP hin I0 hI l8 u8 l9 u9 l10 u10 l11 u11
  exact ⟨a_, b_, ⟨c_, hx⟩, d_⟩
theorem rxgLW2_17_0 {X : (Nat → Int → Int) → Prop} {S0 : Nat → Int → Int} {ws : List Int} (hP : rxPLW2 S0 ws) : bx_obC rxL X S0 rxC242.2.2.1 (rxILW2 S0 ws) (rxmLW2 S0 ws) 17 rxzLW2_17 rxoLW2_17_0 := by
  intro S S' r r' hinv hX hin hsm_ hseg
  obtain ⟨I0, I1, h0_, hr_, b_, f_, d_⟩ := bx_cl (evs := []) (fvs := []) hseg (by decide +kernel) (by decide +kernel)
  have hinv : rxILW2_17 S0 ws S (r 8) (r 9) (r 10) (r 11) := hinv
  rw [← hr_ 8 (by decide), ← hr_ 9 (by decide), ← hr_ 10 (by decide), ← hr_ 11 (by decide)] at hinv
  obtain ⟨⟨l8, u8⟩, ⟨l9, u9⟩, ⟨l10, u10⟩, ⟨l11, u11⟩, -⟩ := b_
  have w_ := d_
  subst w_
  have g := rxcLW2_17_0 hP hin I0 hinv l8 u8 l9 u9 l10 u10 l11 u11
  refine ⟨bx_narP_ok (l := []) g.1, bx_nfP_ok h0_ (fvs := []) (by decide +kernel) g.2.1, ?_, ?_⟩
  · show rxILW2_15 S0 ws S' (bx_val [(0, 0), (0, 0), (0, 0), (0, 0), (0, 0), (0, 0), (0, 0), (0, 0), (8, 0), (9, 1)] r' 8) (bx_val [(0, 0), (0, 0), (0, 0), (0, 0), (0, 0), (0, 0), (0, 0), (0, 0), (8, 0), (9, 1)] r' 9)
    rw [bx_val_x (n := 8) (e := (8, 0)) h0_ rfl, bx_val_x (n := 9) (e := (9, 1)) h0_ rfl]
    exact g.2.2.1
  · show rxmLW2_15 S0 ws S' (bx_val [(0, 0), (0, 0), (0, 0), (0, 0), (0, 0), (0, 0), (0, 0), (0, 0), (8, 0), (9, 1)] r' 8) (bx_val [(0, 0), (0, 0), (0, 0), (0, 0), (0, 0), (0, 0), (0, 0), (0, 0), (8, 0), (9, 1)] r' 9) < rxmLW2_17 S0 ws S' (r 8) (r 9) (r 10) (r 11)
    rw [bx_val_x (n := 8) (e := (8, 0)) h0_ rfl, bx_val_x (n := 9) (e := (9, 1)) h0_ rfl, ← hr_ 8 (by decide), ← hr_ 9 (by decide), ← hr_ 10 (by decide), ← hr_ 11 (by decide)]
    exact g.2.2.2
theorem rxcLW2_18_0 {S0 : Nat → Int → Int} {ws : List Int} {S : Nat → Int → Int} {base i x10 x11 x12 x13 : Int} (hP : rxPLW2 S0 ws) (hin : bx_same rxL (bx_mdl rxC242.2.2.1) S0 S) (I0 : bx_Inv rxL S) (hinv : rxILW2_18 S0 ws S base i) (l8 : 780 ≤ base) (u8 : base ≤ 5280) (l9 : 0 ≤ i) (u9 : i ≤ 399) (l10 : 1 ≤ x10) (u10 : x10 ≤ 400) (l11 : 0 ≤ x11) (u11 : x11 ≤ 798) (l12 : 878 ≤ x12) (u12 : x12 ≤ 6176) (l13 : 0 ≤ x13) (u13 : x13 ≤ 30) (f0 : x12 = base + 98 + x11) (f1 : x11 = 2 * (i)) (f2 : i < x10) (e1 : S 480 18 = x10) (e0 : S 487 i = x13) : (True) ∧ (True) ∧ rxILW2_19 S0 ws S base i x12 x13 ∧ rxmLW2_19 S0 ws S base i x12 x13 < rxmLW2_18 S0 ws S base i := by
  obtain ⟨hI, hx⟩ := hinv
  obtain ⟨a_, b_, c_, d_⟩ := rxc242_18_0 hP hin I0 hI l8 u8 l9 u9 l10 u10 l11 u11 l12 u12 l13 u13 f0 f1 f2 e1 e0
  exact ⟨a_, b_, ⟨c_, hx⟩, d_⟩
theorem rxgLW2_18_0 {X : (Nat → Int → Int) → Prop} {S0 : Nat → Int → Int} {ws : List Int} (hP : rxPLW2 S0 ws) : bx_obC rxL X S0 rxC242.2.2.1 (rxILW2 S0 ws) (rxmLW2 S0 ws) 18 rxzLW2_18 rxoLW2_18_0 := by
  intro S S' r r' hinv hX hin hsm_ hseg
  obtain ⟨I0, I1, h0_, hr_, b_, f_, d_⟩ := bx_cl (evs := [(0, (0, 487), (9, 0), .inr (0, (13, 0))), (0, (0, 480), (0, 18), .inr (0, (10, 0)))]) (fvs := [(5, (12, 0), (8, 98), (11, 0)), (4, (11, 0), (9, 0), (0, 2)), (0, (9, 0), (10, 0), (0, 0))]) hseg (by decide +kernel) (by decide +kernel)
  have hinv : rxILW2_18 S0 ws S (r 8) (r 9) := hinv
  rw [← hr_ 8 (by decide), ← hr_ 9 (by decide)] at hinv
  obtain ⟨⟨l8, u8⟩, ⟨l9, u9⟩, ⟨l10, u10⟩, ⟨l11, u11⟩, ⟨l12, u12⟩, ⟨l13, u13⟩, -⟩ := b_
  obtain ⟨f0, f1, f2, -⟩ := f_
  obtain ⟨e0, ⟨e1, w_⟩⟩ := d_
  subst w_
  have g := rxcLW2_18_0 hP hin I0 hinv l8 u8 l9 u9 l10 u10 l11 u11 l12 u12 l13 u13 f0 f1 f2 e1 e0
  refine ⟨bx_narP_ok (l := []) g.1, bx_nfP_ok h0_ (fvs := []) (by decide +kernel) g.2.1, ?_, ?_⟩
  · show rxILW2_19 S0 ws S' (bx_val [(0, 0), (0, 0), (0, 0), (0, 0), (0, 0), (0, 0), (0, 0), (0, 0), (8, 0), (9, 0), (12, 0), (13, 0)] r' 8) (bx_val [(0, 0), (0, 0), (0, 0), (0, 0), (0, 0), (0, 0), (0, 0), (0, 0), (8, 0), (9, 0), (12, 0), (13, 0)] r' 9) (bx_val [(0, 0), (0, 0), (0, 0), (0, 0), (0, 0), (0, 0), (0, 0), (0, 0), (8, 0), (9, 0), (12, 0), (13, 0)] r' 10) (bx_val [(0, 0), (0, 0), (0, 0), (0, 0), (0, 0), (0, 0), (0, 0), (0, 0), (8, 0), (9, 0), (12, 0), (13, 0)] r' 11)
    rw [bx_val_x (n := 8) (e := (8, 0)) h0_ rfl, bx_val_x (n := 9) (e := (9, 0)) h0_ rfl, bx_val_x (n := 10) (e := (12, 0)) h0_ rfl, bx_val_x (n := 11) (e := (13, 0)) h0_ rfl]
    exact g.2.2.1
  · show rxmLW2_19 S0 ws S' (bx_val [(0, 0), (0, 0), (0, 0), (0, 0), (0, 0), (0, 0), (0, 0), (0, 0), (8, 0), (9, 0), (12, 0), (13, 0)] r' 8) (bx_val [(0, 0), (0, 0), (0, 0), (0, 0), (0, 0), (0, 0), (0, 0), (0, 0), (8, 0), (9, 0), (12, 0), (13, 0)] r' 9) (bx_val [(0, 0), (0, 0), (0, 0), (0, 0), (0, 0), (0, 0), (0, 0), (0, 0), (8, 0), (9, 0), (12, 0), (13, 0)] r' 10) (bx_val [(0, 0), (0, 0), (0, 0), (0, 0), (0, 0), (0, 0), (0, 0), (0, 0), (8, 0), (9, 0), (12, 0), (13, 0)] r' 11) < rxmLW2_18 S0 ws S' (r 8) (r 9)
    rw [bx_val_x (n := 8) (e := (8, 0)) h0_ rfl, bx_val_x (n := 9) (e := (9, 0)) h0_ rfl, bx_val_x (n := 10) (e := (12, 0)) h0_ rfl, bx_val_x (n := 11) (e := (13, 0)) h0_ rfl, ← hr_ 8 (by decide), ← hr_ 9 (by decide)]
    exact g.2.2.2
theorem rxcLW2_18_1 {S0 : Nat → Int → Int} {ws : List Int} {S : Nat → Int → Int} {base i x10 x11 : Int} (hP : rxPLW2 S0 ws) (hin : bx_same rxL (bx_mdl rxC242.2.2.1) S0 S) (I0 : bx_Inv rxL S) (hinv : rxILW2_18 S0 ws S base i) (l8 : 780 ≤ base) (u8 : base ≤ 5280) (l9 : 0 ≤ i) (u9 : i ≤ 400) (l10 : 0 ≤ x10) (u10 : x10 ≤ 400) (l11 : 0 ≤ x11) (u11 : x11 ≤ 6) (f0 : x10 ≤ i) (e1 : S 480 18 = x10) (e0 : S 482 3 = x11) : ((0 ≤ x11 ∧ x11 ≤ 5) ∧ True) ∧ (True) ∧ rxILW2_23 S0 ws S x11 ∧ rxmLW2_23 S0 ws S x11 < rxmLW2_18 S0 ws S base i := by
  obtain ⟨hI, hx⟩ := hinv
  obtain ⟨a_, b_, c_, d_⟩ := rxc242_18_1 hP hin I0 hI l8 u8 l9 u9 l10 u10 l11 u11 f0 e1 e0
  exact ⟨a_, b_, ⟨c_, hx⟩, d_⟩
theorem rxgLW2_18_1 {X : (Nat → Int → Int) → Prop} {S0 : Nat → Int → Int} {ws : List Int} (hP : rxPLW2 S0 ws) : bx_obC rxL X S0 rxC242.2.2.1 (rxILW2 S0 ws) (rxmLW2 S0 ws) 18 rxzLW2_18 rxoLW2_18_1 := by
  intro S S' r r' hinv hX hin hsm_ hseg
  obtain ⟨I0, I1, h0_, hr_, b_, f_, d_⟩ := bx_cl (evs := [(0, (0, 482), (0, 3), .inr (0, (11, 0))), (0, (0, 480), (0, 18), .inr (0, (10, 0)))]) (fvs := [(1, (10, 0), (9, 0), (0, 0))]) hseg (by decide +kernel) (by decide +kernel)
  have hinv : rxILW2_18 S0 ws S (r 8) (r 9) := hinv
  rw [← hr_ 8 (by decide), ← hr_ 9 (by decide)] at hinv
  obtain ⟨⟨l8, u8⟩, ⟨l9, u9⟩, ⟨l10, u10⟩, ⟨l11, u11⟩, -⟩ := b_
  obtain ⟨f0, -⟩ := f_
  obtain ⟨e0, ⟨e1, w_⟩⟩ := d_
  subst w_
  have g := rxcLW2_18_1 hP hin I0 hinv l8 u8 l9 u9 l10 u10 l11 u11 f0 e1 e0
  refine ⟨bx_narP_ok (l := [(11, 0, 5)]) g.1, bx_nfP_ok h0_ (fvs := []) (by decide +kernel) g.2.1, ?_, ?_⟩
  · show rxILW2_23 S0 ws S' (bx_val [(0, 0), (0, 0), (0, 0), (0, 0), (0, 0), (0, 0), (0, 0), (0, 0), (11, 0)] r' 8)
    rw [bx_val_x (n := 8) (e := (11, 0)) h0_ rfl]
    exact g.2.2.1
  · show rxmLW2_23 S0 ws S' (bx_val [(0, 0), (0, 0), (0, 0), (0, 0), (0, 0), (0, 0), (0, 0), (0, 0), (11, 0)] r' 8) < rxmLW2_18 S0 ws S' (r 8) (r 9)
    rw [bx_val_x (n := 8) (e := (11, 0)) h0_ rfl, ← hr_ 8 (by decide), ← hr_ 9 (by decide)]
    exact g.2.2.2
theorem rxcLW2_20_0 {S0 : Nat → Int → Int} {ws : List Int} {S : Nat → Int → Int} {base i a v x12 x13 x14 : Int} (hP : rxPLW2 S0 ws) (hin : bx_same rxL (bx_mdl rxC242.2.2.1) S0 S) (I0 : bx_Inv rxL S) (hinv : rxILW2_20 S0 ws S base i a v) (l8 : 780 ≤ base) (u8 : base ≤ 5280) (l9 : 0 ≤ i) (u9 : i ≤ 399) (l10 : 878 ≤ a) (u10 : a ≤ 6176) (l11 : 0 ≤ v) (u11 : v ≤ 30) (l12 : 0 ≤ x12) (u12 : x12 ≤ 798) (l13 : 878 ≤ x13) (u13 : x13 ≤ 6176) (l14 : 0 ≤ x14) (u14 : x14 ≤ 1000) (f0 : x13 = base + 98 + x12) (f1 : x12 = 2 * (i)) (e0 : S 488 i = x14) : (True) ∧ (True) ∧ rxILW2_21 S0 ws S base i (x13 + 1) x14 ∧ rxmLW2_21 S0 ws S base i (x13 + 1) x14 < rxmLW2_20 S0 ws S base i a v := by
  obtain ⟨hI, hx⟩ := hinv
  obtain ⟨a_, b_, c_, d_⟩ := rxc242_20_0 hP hin I0 hI l8 u8 l9 u9 l10 u10 l11 u11 l12 u12 l13 u13 l14 u14 f0 f1 e0
  exact ⟨a_, b_, ⟨c_, hx⟩, d_⟩
theorem rxgLW2_20_0 {X : (Nat → Int → Int) → Prop} {S0 : Nat → Int → Int} {ws : List Int} (hP : rxPLW2 S0 ws) : bx_obC rxL X S0 rxC242.2.2.1 (rxILW2 S0 ws) (rxmLW2 S0 ws) 20 rxzLW2_20 rxoLW2_20_0 := by
  intro S S' r r' hinv hX hin hsm_ hseg
  obtain ⟨I0, I1, h0_, hr_, b_, f_, d_⟩ := bx_cl (evs := [(0, (0, 488), (9, 0), .inr (0, (14, 0)))]) (fvs := [(5, (13, 0), (8, 98), (12, 0)), (4, (12, 0), (9, 0), (0, 2))]) hseg (by decide +kernel) (by decide +kernel)
  have hinv : rxILW2_20 S0 ws S (r 8) (r 9) (r 10) (r 11) := hinv
  rw [← hr_ 8 (by decide), ← hr_ 9 (by decide), ← hr_ 10 (by decide), ← hr_ 11 (by decide)] at hinv
  obtain ⟨⟨l8, u8⟩, ⟨l9, u9⟩, ⟨l10, u10⟩, ⟨l11, u11⟩, ⟨l12, u12⟩, ⟨l13, u13⟩, ⟨l14, u14⟩, -⟩ := b_
  obtain ⟨f0, f1, -⟩ := f_
  obtain ⟨e0, w_⟩ := d_
  subst w_
  have g := rxcLW2_20_0 hP hin I0 hinv l8 u8 l9 u9 l10 u10 l11 u11 l12 u12 l13 u13 l14 u14 f0 f1 e0
  refine ⟨bx_narP_ok (l := []) g.1, bx_nfP_ok h0_ (fvs := []) (by decide +kernel) g.2.1, ?_, ?_⟩
  · show rxILW2_21 S0 ws S' (bx_val [(0, 0), (0, 0), (0, 0), (0, 0), (0, 0), (0, 0), (0, 0), (0, 0), (8, 0), (9, 0), (13, 1), (14, 0)] r' 8) (bx_val [(0, 0), (0, 0), (0, 0), (0, 0), (0, 0), (0, 0), (0, 0), (0, 0), (8, 0), (9, 0), (13, 1), (14, 0)] r' 9) (bx_val [(0, 0), (0, 0), (0, 0), (0, 0), (0, 0), (0, 0), (0, 0), (0, 0), (8, 0), (9, 0), (13, 1), (14, 0)] r' 10) (bx_val [(0, 0), (0, 0), (0, 0), (0, 0), (0, 0), (0, 0), (0, 0), (0, 0), (8, 0), (9, 0), (13, 1), (14, 0)] r' 11)
    rw [bx_val_x (n := 8) (e := (8, 0)) h0_ rfl, bx_val_x (n := 9) (e := (9, 0)) h0_ rfl, bx_val_x (n := 10) (e := (13, 1)) h0_ rfl, bx_val_x (n := 11) (e := (14, 0)) h0_ rfl]
    exact g.2.2.1
  · show rxmLW2_21 S0 ws S' (bx_val [(0, 0), (0, 0), (0, 0), (0, 0), (0, 0), (0, 0), (0, 0), (0, 0), (8, 0), (9, 0), (13, 1), (14, 0)] r' 8) (bx_val [(0, 0), (0, 0), (0, 0), (0, 0), (0, 0), (0, 0), (0, 0), (0, 0), (8, 0), (9, 0), (13, 1), (14, 0)] r' 9) (bx_val [(0, 0), (0, 0), (0, 0), (0, 0), (0, 0), (0, 0), (0, 0), (0, 0), (8, 0), (9, 0), (13, 1), (14, 0)] r' 10) (bx_val [(0, 0), (0, 0), (0, 0), (0, 0), (0, 0), (0, 0), (0, 0), (0, 0), (8, 0), (9, 0), (13, 1), (14, 0)] r' 11) < rxmLW2_20 S0 ws S' (r 8) (r 9) (r 10) (r 11)
    rw [bx_val_x (n := 8) (e := (8, 0)) h0_ rfl, bx_val_x (n := 9) (e := (9, 0)) h0_ rfl, bx_val_x (n := 10) (e := (13, 1)) h0_ rfl, bx_val_x (n := 11) (e := (14, 0)) h0_ rfl, ← hr_ 8 (by decide), ← hr_ 9 (by decide), ← hr_ 10 (by decide), ← hr_ 11 (by decide)]
    exact g.2.2.2
theorem rxcLW2_22_0 {S0 : Nat → Int → Int} {ws : List Int} {S : Nat → Int → Int} {base i a v : Int} (hP : rxPLW2 S0 ws) (hin : bx_same rxL (bx_mdl rxC242.2.2.1) S0 S) (I0 : bx_Inv rxL S) (hinv : rxILW2_22 S0 ws S base i a v) (l8 : 780 ≤ base) (u8 : base ≤ 5280) (l9 : 0 ≤ i) (u9 : i ≤ 399) (l10 : 879 ≤ a) (u10 : a ≤ 6177) (l11 : 0 ≤ v) (u11 : v ≤ 1000) : (True) ∧ (True) ∧ rxILW2_18 S0 ws S base (i + 1) ∧ rxmLW2_18 S0 ws S base (i + 1) < rxmLW2_22 S0 ws S base i a v := by
  obtain ⟨hI, hx⟩ := hinv
  obtain ⟨a_, b_, c_, d_⟩ := rxc242_22_0 hP hin I0 hI l8 u8 l9 u9 l10 u10 l11 u11
  exact ⟨a_, b_, ⟨c_, hx⟩, d_⟩
theorem rxgLW2_22_0 {X : (Nat → Int → Int) → Prop} {S0 : Nat → Int → Int} {ws : List Int} (hP : rxPLW2 S0 ws) : bx_obC rxL X S0 rxC242.2.2.1 (rxILW2 S0 ws) (rxmLW2 S0 ws) 22 rxzLW2_22 rxoLW2_22_0 := by
  intro S S' r r' hinv hX hin hsm_ hseg
  obtain ⟨I0, I1, h0_, hr_, b_, f_, d_⟩ := bx_cl (evs := []) (fvs := []) hseg (by decide +kernel) (by decide +kernel)
  have hinv : rxILW2_22 S0 ws S (r 8) (r 9) (r 10) (r 11) := hinv
  rw [← hr_ 8 (by decide), ← hr_ 9 (by decide), ← hr_ 10 (by decide), ← hr_ 11 (by decide)] at hinv
  obtain ⟨⟨l8, u8⟩, ⟨l9, u9⟩, ⟨l10, u10⟩, ⟨l11, u11⟩, -⟩ := b_
  have w_ := d_
  subst w_
  have g := rxcLW2_22_0 hP hin I0 hinv l8 u8 l9 u9 l10 u10 l11 u11
  refine ⟨bx_narP_ok (l := []) g.1, bx_nfP_ok h0_ (fvs := []) (by decide +kernel) g.2.1, ?_, ?_⟩
  · show rxILW2_18 S0 ws S' (bx_val [(0, 0), (0, 0), (0, 0), (0, 0), (0, 0), (0, 0), (0, 0), (0, 0), (8, 0), (9, 1)] r' 8) (bx_val [(0, 0), (0, 0), (0, 0), (0, 0), (0, 0), (0, 0), (0, 0), (0, 0), (8, 0), (9, 1)] r' 9)
    rw [bx_val_x (n := 8) (e := (8, 0)) h0_ rfl, bx_val_x (n := 9) (e := (9, 1)) h0_ rfl]
    exact g.2.2.1
  · show rxmLW2_18 S0 ws S' (bx_val [(0, 0), (0, 0), (0, 0), (0, 0), (0, 0), (0, 0), (0, 0), (0, 0), (8, 0), (9, 1)] r' 8) (bx_val [(0, 0), (0, 0), (0, 0), (0, 0), (0, 0), (0, 0), (0, 0), (0, 0), (8, 0), (9, 1)] r' 9) < rxmLW2_22 S0 ws S' (r 8) (r 9) (r 10) (r 11)
    rw [bx_val_x (n := 8) (e := (8, 0)) h0_ rfl, bx_val_x (n := 9) (e := (9, 1)) h0_ rfl, ← hr_ 8 (by decide), ← hr_ 9 (by decide), ← hr_ 10 (by decide), ← hr_ 11 (by decide)]
    exact g.2.2.2
theorem rxdLW2_23_0 {S0 : Nat → Int → Int} {ws : List Int} {S : Nat → Int → Int} {n3 : Int} (hP : rxPLW2 S0 ws) (hin : bx_same rxL (bx_mdl rxC242.2.2.1) S0 S) (hin2 : bx_same rxL (bx_mdl rxC242.2.2.1) S (bx_up (bx_up S 482 3 (n3 + 1)) 480 1 0)) (I0 : bx_Inv rxL S) (I1 : bx_Inv rxL (bx_up (bx_up S 482 3 (n3 + 1)) 480 1 0)) (hinv : rxILW2_23 S0 ws S n3) (l8 : 0 ≤ n3) (u8 : n3 ≤ 5) : (True) ∧ rxPSLW2 S0 ws (bx_up (bx_up S 482 3 (n3 + 1)) 480 1 0) (some n3) := by
  obtain ⟨hI, hx⟩ := hinv
  obtain ⟨a_, c_⟩ := rxd242_23_0 hP hin hin2 I0 I1 hI l8 u8
  exact ⟨a_, c_, ⟨True.intro, True.intro, ((bx_up_ne (by omega)).trans ((bx_up_ne (by omega)))).trans hx⟩⟩
theorem rxfLW2_23_0 {X : (Nat → Int → Int) → Prop} {S0 : Nat → Int → Int} {ws : List Int} (hP : rxPLW2 S0 ws) : bx_obE rxL X S0 rxC242.2.2.1 (rxILW2 S0 ws) (rxPSLW2 S0 ws) 23 rxzLW2_23 rxeLW2_23_0 := by
  intro S S' r r' hinv hX hin hsm_ hseg
  obtain ⟨I0, I1, h0_, hr_, b_, f_, d_⟩ := bx_cl (evs := [(1, (0, 480), (0, 1), .inr (0, (0, 0))), (1, (0, 482), (0, 3), .inr (0, (8, 1)))]) (fvs := []) hseg (by decide +kernel) (by decide +kernel)
  have hinv : rxILW2_23 S0 ws S (r 8) := hinv
  rw [← hr_ 8 (by decide)] at hinv
  obtain ⟨⟨l8, u8⟩, -⟩ := b_
  obtain ⟨T0, ⟨T1, w_, w1⟩, w0⟩ := d_
  subst w0
  subst w1
  subst w_
  have g := rxdLW2_23_0 hP hin hsm_ I0 I1 hinv l8 u8
  refine ⟨bx_narP_ok (l := []) g.1, ?_⟩
  show rxPSLW2 S0 ws (bx_up (bx_up T1 482 (3) (r' 8 + 1)) 480 (1) (0)) (some (bx_num r' (.inr (0, (8, 0)))))
  rw [bx_xv_ok h0_]
  exact g.2
theorem rxgCLW2 {X : (Nat → Int → Int) → Prop} {S0 : Nat → Int → Int} {ws : List Int} (hP : rxPLW2 S0 ws) : bx_allI (fun i q => rxULW2 q = true ∨ bx_allP (fun o => bx_obC rxL X S0 rxC242.2.2.1 (rxILW2 S0 ws) (rxmLW2 S0 ws) i q.1 o) q.2.1) 0 rxYLW2 := ⟨Or.inr ⟨rxgLW2_0_0 hP, trivial⟩, Or.inl rfl, Or.inr ⟨rxgLW2_2_0 hP, trivial⟩, Or.inl rfl, Or.inr ⟨rxgLW2_4_0 hP, rxgLW2_4_1 hP, rxgLW2_4_2 hP, rxgLW2_4_3 hP, trivial⟩, Or.inr ⟨rxgLW2_5_0 hP, rxgLW2_5_1 hP, rxgLW2_5_2 hP, rxgLW2_5_3 hP, trivial⟩, Or.inl rfl, Or.inr ⟨rxgLW2_7_0 hP, trivial⟩, Or.inl rfl, Or.inr ⟨rxgLW2_9_0 hP, trivial⟩, Or.inl rfl, Or.inr ⟨rxgLW2_11_0 hP, trivial⟩, Or.inr ⟨rxgLW2_12_0 hP, trivial⟩, Or.inl rfl, Or.inr ⟨rxgLW2_14_0 hP, trivial⟩, Or.inr ⟨rxgLW2_15_0 hP, rxgLW2_15_1 hP, trivial⟩, Or.inl rfl, Or.inr ⟨rxgLW2_17_0 hP, trivial⟩, Or.inr ⟨rxgLW2_18_0 hP, rxgLW2_18_1 hP, trivial⟩, Or.inl rfl, Or.inr ⟨rxgLW2_20_0 hP, trivial⟩, Or.inl rfl, Or.inr ⟨rxgLW2_22_0 hP, trivial⟩, Or.inr trivial, trivial⟩
theorem rxgELW2 {X : (Nat → Int → Int) → Prop} {S0 : Nat → Int → Int} {ws : List Int} (hP : rxPLW2 S0 ws) : bx_allI (fun i q => rxULW2 q = true ∨ bx_allP (fun E => bx_obE rxL X S0 rxC242.2.2.1 (rxILW2 S0 ws) (rxPSLW2 S0 ws) i q.1 E) q.2.2) 0 rxYLW2 := ⟨Or.inr ⟨rxfLW2_0_0 hP, trivial⟩, Or.inl rfl, Or.inr trivial, Or.inl rfl, Or.inr trivial, Or.inr trivial, Or.inl rfl, Or.inr trivial, Or.inl rfl, Or.inr trivial, Or.inl rfl, Or.inr ⟨rxfLW2_11_0 hP, trivial⟩, Or.inr trivial, Or.inl rfl, Or.inr trivial, Or.inr trivial, Or.inl rfl, Or.inr trivial, Or.inr trivial, Or.inl rfl, Or.inr trivial, Or.inl rfl, Or.inr trivial, Or.inr ⟨rxfLW2_23_0 hP, trivial⟩, trivial⟩
theorem rxuLW2 {PX : State → Prop} {Dg : va_G} {A : Nat → Prop} {ad xa : Nat → Nat} {l : Launch} {X : (Nat → Int → Int) → Prop} (hPX : rx_PXOK rxNW A PX) (hX : ∀ S S1 : Nat → Int → Int, X S → bx_same rxL (bx_mdl rxC242.2.2.1) S S1 → X S1) (hQBX : bx_ConP rxG rxNW rxAO PX Dg rxL X vwCl A ad l rxM283 rxCBX rxPBX rxPSBX) (hQRL : bx_ConP rxG rxNW rxAO PX Dg rxL X vwCl A ad l rxM284 rxCRL rxPRL rxPSRL) (hQNX : bx_ConP rxG rxNW rxAO PX Dg rxL X vwCl A ad l rxM264 rxCNX rxPNX rxPSNX) (hQET2 : bx_ConP rxG rxNW rxAO PX Dg rxL X vwCl A ad l rxM285 rxCET2 rxPET2 rxPSET2) {S0 : Nat → Int → Int} {ws : List Int} (hP : rxPLW2 S0 ws) : ∀ (i : Nat) (q : bx_HE), rxYLW2[i]? = some q → rxULW2 q = true → ∀ {p : Program} {e : Env} {R : Room} {s : State} {m : MethodId} {args : Array Value} {below : List Frame} {meth : Method} {c : Code} {Q : State → Prop} {H0 : Heap}, rx_Fr rxG rxNW rxAO PX p s m args meth c rxM242 → (∀ q, H0.size ≤ q → A q) → H0 = s.heap → rxM242.2.2.2.2.2.2.1 ≤ R.cells → rxM242.2.2.2.2.2.2.2 ≤ R.slots → rxC242.2.2.2.1 ≤ R.frames → rxC242.2.2.2.1 * 40 ≤ R.locals → bx_Step p l e R s m args below meth c Q Dg rxL X vwCl A xa H0 ad rxM242 rxYLW2 (rxILW2 S0 ws) (rxmLW2 S0 ws) S0 rxC242.2.2.1 i q := by
  intro i q hq hus p e R s m args below meth c Q H0 hF hA hH0 hmc hms hd hdl
  match i, hq with
  | 0, hq =>
    cases hq
    exact absurd (show false = true from hus) Bool.false_ne_true
  | 1, hq =>
    cases hq
    exact rx_stepC (ins := .invokevirtual 388) (len := 3) (i' := 2) (M' := rxM283) (d := rxC242.2.2.2.1) (as := [.inr (3, (0, 480)), .inr (0, (0, 0))]) (t := []) (ct := rxCBX) hPX hF rfl hA hH0 hmc hms hd hdl (by decide +kernel) rfl rfl (by decide +kernel) (by decide +kernel) hQBX (by decide +kernel) rfl (Or.inl ⟨rfl, rfl, rfl⟩) (rxsLW2_1 hP)
  | 2, hq =>
    cases hq
    exact absurd (show false = true from hus) Bool.false_ne_true
  | 3, hq =>
    cases hq
    exact rx_stepC (ins := .invokevirtual 391) (len := 3) (i' := 4) (M' := rxM284) (d := rxC242.2.2.2.1) (as := [.inr (3, (0, 480))]) (t := []) (ct := rxCRL) hPX hF rfl hA hH0 hmc hms hd hdl (by decide +kernel) rfl rfl (by decide +kernel) (by decide +kernel) hQRL (by decide +kernel) rfl (Or.inl ⟨rfl, rfl, rfl⟩) (rxsLW2_3 hP)
  | 4, hq =>
    cases hq
    exact absurd (show false = true from hus) Bool.false_ne_true
  | 5, hq =>
    cases hq
    exact absurd (show false = true from hus) Bool.false_ne_true
  | 6, hq =>
    cases hq
    exact rx_stepC (ins := .invokevirtual 253) (len := 3) (i' := 7) (M' := rxM264) (d := rxC242.2.2.2.1) (as := [.inr (3, (0, 480))]) (t := []) (ct := rxCNX) hPX hF rfl hA hH0 hmc hms hd hdl (by decide +kernel) rfl rfl (by decide +kernel) (by decide +kernel) hQNX (by decide +kernel) rfl (Or.inl ⟨rfl, rfl, rfl⟩) (rxsLW2_6 hP)
  | 7, hq =>
    cases hq
    exact absurd (show false = true from hus) Bool.false_ne_true
  | 8, hq =>
    cases hq
    exact rx_stepC (ins := .invokevirtual 391) (len := 3) (i' := 9) (M' := rxM284) (d := rxC242.2.2.2.1) (as := [.inr (3, (0, 480))]) (t := []) (ct := rxCRL) hPX hF rfl hA hH0 hmc hms hd hdl (by decide +kernel) rfl rfl (by decide +kernel) (by decide +kernel) hQRL (by decide +kernel) rfl (Or.inl ⟨rfl, rfl, rfl⟩) (rxsLW2_8 hP)
  | 9, hq =>
    cases hq
    exact absurd (show false = true from hus) Bool.false_ne_true
  | 10, hq =>
    cases hq
    exact rx_stepC (ins := .invokevirtual 394) (len := 3) (i' := 11) (M' := rxM285) (d := rxC242.2.2.2.1) (as := [.inr (3, (0, 480))]) (t := []) (ct := rxCET2) hPX hF rfl hA hH0 hmc hms hd hdl (by decide +kernel) rfl rfl (by decide +kernel) (by decide +kernel) hQET2 (by decide +kernel) rfl (Or.inl ⟨rfl, rfl, rfl⟩) (rxsLW2_10 hP)
  | 11, hq =>
    cases hq
    exact absurd (show false = true from hus) Bool.false_ne_true
  | 12, hq =>
    cases hq
    exact absurd (show false = true from hus) Bool.false_ne_true
  | 13, hq =>
    cases hq
    exact rx_stepS (i' := 14) (pl := 482) (a := 9) (b := 10) (n := 6180) (g := 63) (lo := 781) (hi := 5281) (ty := (0, 0, 12)) (t := []) hF (by decide +kernel) rfl rfl rfl rfl (by omega) (by omega) (by decide +kernel) rfl rfl (rxsLW2_13 hP hX)
  | 14, hq =>
    cases hq
    exact absurd (show false = true from hus) Bool.false_ne_true
  | 15, hq =>
    cases hq
    exact absurd (show false = true from hus) Bool.false_ne_true
  | 16, hq =>
    cases hq
    exact rx_stepS (i' := 17) (pl := 482) (a := 10) (b := 11) (n := 6180) (g := 63) (lo := 782) (hi := 5377) (ty := (0, 0, 400)) (t := []) hF (by decide +kernel) rfl rfl rfl rfl (by omega) (by omega) (by decide +kernel) rfl rfl (rxsLW2_16 hP hX)
  | 17, hq =>
    cases hq
    exact absurd (show false = true from hus) Bool.false_ne_true
  | 18, hq =>
    cases hq
    exact absurd (show false = true from hus) Bool.false_ne_true
  | 19, hq =>
    cases hq
    exact rx_stepS (i' := 20) (pl := 482) (a := 10) (b := 11) (n := 6180) (g := 63) (lo := 878) (hi := 6176) (ty := (0, 0, 30)) (t := []) hF (by decide +kernel) rfl rfl rfl rfl (by omega) (by omega) (by decide +kernel) rfl rfl (rxsLW2_19 hP hX)
  | 20, hq =>
    cases hq
    exact absurd (show false = true from hus) Bool.false_ne_true
  | 21, hq =>
    cases hq
    exact rx_stepS (i' := 22) (pl := 482) (a := 10) (b := 11) (n := 6180) (g := 63) (lo := 879) (hi := 6177) (ty := (0, 0, 1000)) (t := []) hF (by decide +kernel) rfl rfl rfl rfl (by omega) (by omega) (by decide +kernel) rfl rfl (rxsLW2_21 hP hX)
  | 22, hq =>
    cases hq
    exact absurd (show false = true from hus) Bool.false_ne_true
  | 23, hq =>
    cases hq
    exact absurd (show false = true from hus) Bool.false_ne_true
  | n + 24, hq => cases hq
theorem rxQLW2 {PX : State → Prop} {Dg : va_G} {A : Nat → Prop} {ad xa : Nat → Nat} {l : Launch} {X : (Nat → Int → Int) → Prop} (hPX : rx_PXOK rxNW A PX) (hsl : ∀ s : State, PX s → ∀ o idx n : Nat, rxSl o idx = some n → ∃ tx : String, vk_R (rxNm o) idx tx (ad n) s)
    (hX : ∀ S S' : Nat → Int → Int, X S → bx_same rxL (bx_mdl rxC242.2.2.1) S S' → X S')
    (ih : ∀ (j2 : Nat) (ct2 : bx_Ct) (M2 : rx_Mt), ct2 ∈ rxCnE j2 → ct2.2.2.2.1 + 1 ≤ rxC242.2.2.2.1 → rxT.2.2.2.2.2 j2 = some M2 → bx_Con rxG rxNW rxAO PX Dg rxL X vwCl A ad l M2 ct2) (hQBX : bx_ConP rxG rxNW rxAO PX Dg rxL X vwCl A ad l rxM283 rxCBX rxPBX rxPSBX) (hQRL : bx_ConP rxG rxNW rxAO PX Dg rxL X vwCl A ad l rxM284 rxCRL rxPRL rxPSRL) (hQNX : bx_ConP rxG rxNW rxAO PX Dg rxL X vwCl A ad l rxM264 rxCNX rxPNX rxPSNX) (hQET2 : bx_ConP rxG rxNW rxAO PX Dg rxL X vwCl A ad l rxM285 rxCET2 rxPET2 rxPSET2) : bx_ConP rxG rxNW rxAO PX Dg rxL X vwCl A ad l rxM242 rxC242 rxPLW2 rxPSLW2 :=
  rxQof (xa := xa) (Cn := rxCnE) (f := 30000) (j := 242) (tab := rxYLW2) (us := rxULW2) hPX hsl hX ih rfl rxYcLW2 rxILW2 rxmLW2
    (fun S0 ws r I0 I ht0 ht as he he1 hX0 hI0 hP hs ha => by
      have e := he.symm.trans (show bx_ent0 rxNP rxC242.1 bx_I0 [] = some ([(0, 0), (0, 0), (0, 0), (0, 0), (0, 0), (0, 0), (0, 0), (0, 0)], [], [.inr (3, (0, 480))]) from rfl)
      cases e
      subst ha
      have h0 : r 0 = 0 := hs.1
      show rxILW2_0 S0 _ S0
      refine ⟨⟨rfl, ?_⟩, trivial⟩
      simp only [List.map_cons, List.map_nil, bx_xv_ok h0]
      rfl)
    (fun S0 ws hP => rxuLW2 (xa := xa) hPX hX hQBX hQRL hQNX hQET2 hP) (fun S0 ws hP => rxgCLW2 hP) (fun S0 ws hP => rxgELW2 hP)
def rzPT242 (S0 : Nat → Int → Int) (ws : List Int) (S : Nat → Int → Int) (w : Option Int) : Prop := True ∧ True ∧ S 480 8 = 0
set_option maxHeartbeats 1000000 in
theorem rzQ242 {PX : State → Prop} {Dg : va_G} {A : Nat → Prop} {ad : Nat → Nat} {l : Launch} (hPX : rx_PXOK rxNW A PX) (hsl : ∀ s : State, PX s → ∀ o idx n : Nat, rxSl o idx = some n → ∃ tx : String, vk_R (rxNm o) idx tx (ad n) s) : bx_ConP rxG rxNW rxAO PX Dg rxL rxX vwCl A ad l rxM242 rxC242 (fun _ _ => True) rzPT242 := by
  have qNX := rxQNX (PX := PX) (Dg := Dg) (A := A) (ad := ad) (xa := fun n => n) (l := l) (X := (fun _ => True)) hPX hsl (fun _ _ h _ => h) (fun _ _ _ h => absurd h List.not_mem_nil)
  have qBG := rxQBG (PX := PX) (Dg := Dg) (A := A) (ad := ad) (xa := fun n => n) (l := l) (X := (fun _ => True)) hPX hsl (fun _ _ h _ => h) (fun _ _ _ h => absurd h List.not_mem_nil) qNX
  have qBX := rxQBX (PX := PX) (Dg := Dg) (A := A) (ad := ad) (xa := fun n => n) (l := l) (X := (fun _ => True)) hPX hsl (fun _ _ h _ => h) (fun _ _ _ h => absurd h List.not_mem_nil) qBG
  have qMU := rxQMU (PX := PX) (Dg := Dg) (A := A) (ad := ad) (xa := fun n => n) (l := l) (X := (fun _ => True)) hPX hsl (fun _ _ h _ => h) (fun _ _ _ h => absurd h List.not_mem_nil) qNX
  have qPU := rxQPU (PX := PX) (Dg := Dg) (A := A) (ad := ad) (xa := fun n => n) (l := l) (X := (fun _ => True)) hPX hsl (fun _ _ h _ => h) (fun _ _ _ h => absurd h List.not_mem_nil)
  have qOB := rxQOB (PX := PX) (Dg := Dg) (A := A) (ad := ad) (xa := fun n => n) (l := l) (X := (fun _ => True)) hPX hsl (fun _ _ h _ => h) (fun _ _ _ h => absurd h List.not_mem_nil) qMU qPU
  have qPP := rxQPP (PX := PX) (Dg := Dg) (A := A) (ad := ad) (xa := fun n => n) (l := l) (X := (fun _ => True)) hPX hsl (fun _ _ h _ => h) (fun _ _ _ h => absurd h List.not_mem_nil)
  have qPA := rxQPA (PX := PX) (Dg := Dg) (A := A) (ad := ad) (xa := fun n => n) (l := l) (X := (fun _ => True)) hPX hsl (fun _ _ h _ => h) (fun _ _ _ h => absurd h List.not_mem_nil)
  have qEM := rxQEM (PX := PX) (Dg := Dg) (A := A) (ad := ad) (xa := fun n => n) (l := l) (X := (fun _ => True)) hPX hsl (fun _ _ h _ => h) (fun _ _ _ h => absurd h List.not_mem_nil)
  have qLF := rxQLF (PX := PX) (Dg := Dg) (A := A) (ad := ad) (xa := fun n => n) (l := l) (X := (fun _ => True)) hPX hsl (fun _ _ h _ => h) (fun _ _ _ h => absurd h List.not_mem_nil) qMU qEM
  have qRP := rxQRP (PX := PX) (Dg := Dg) (A := A) (ad := ad) (xa := fun n => n) (l := l) (X := (fun _ => True)) hPX hsl (fun _ _ h _ => h) (fun _ _ _ h => absurd h List.not_mem_nil) qOB qPP qPA qLF
  have qRN := rxQRN (PX := PX) (Dg := Dg) (A := A) (ad := ad) (xa := fun n => n) (l := l) (X := (fun _ => True)) hPX hsl (fun _ _ h _ => h) (fun _ _ _ h => absurd h List.not_mem_nil) qPU qNX qOB qRP
  have qBI := rxQBI (PX := PX) (Dg := Dg) (A := A) (ad := ad) (xa := fun n => n) (l := l) (X := (fun _ => True)) hPX hsl (fun _ _ h _ => h) (fun _ _ _ h => absurd h List.not_mem_nil)
  have qST := rxQST (PX := PX) (Dg := Dg) (A := A) (ad := ad) (xa := fun n => n) (l := l) (X := (fun _ => True)) hPX hsl (fun _ _ h _ => h) (fun _ _ _ h => absurd h List.not_mem_nil) qEM
  have qIN := rxQIN (PX := PX) (Dg := Dg) (A := A) (ad := ad) (xa := fun n => n) (l := l) (X := (fun _ => True)) hPX hsl (fun _ _ h _ => h) (fun _ _ _ h => absurd h List.not_mem_nil)
  have qIS := rxQIS (PX := PX) (Dg := Dg) (A := A) (ad := ad) (xa := fun n => n) (l := l) (X := (fun _ => True)) hPX hsl (fun _ _ h _ => h) (fun _ _ _ h => absurd h List.not_mem_nil)
  have qIC := rxQIC (PX := PX) (Dg := Dg) (A := A) (ad := ad) (xa := fun n => n) (l := l) (X := (fun _ => True)) hPX hsl (fun _ _ h _ => h) (fun _ _ _ h => absurd h List.not_mem_nil)
  have qBS := rxQBS (PX := PX) (Dg := Dg) (A := A) (ad := ad) (xa := fun n => n) (l := l) (X := (fun _ => True)) hPX hsl (fun _ _ h _ => h) (fun _ _ _ h => absurd h List.not_mem_nil) qBI qST qPU qNX qIN qIS qMU qIC
  have qBT := rxQBT (PX := PX) (Dg := Dg) (A := A) (ad := ad) (xa := fun n => n) (l := l) (X := (fun _ => True)) hPX hsl (fun _ _ h _ => h) (fun _ _ _ h => absurd h List.not_mem_nil) qST qPU qEM qNX qIN qIS qMU
  have qRE := rxQRE (PX := PX) (Dg := Dg) (A := A) (ad := ad) (xa := fun n => n) (l := l) (X := (fun _ => True)) hPX hsl (fun _ _ h _ => h) (fun _ _ _ h => absurd h List.not_mem_nil) qRN qRP qBS qBT qST
  have qRL := rxQRL (PX := PX) (Dg := Dg) (A := A) (ad := ad) (xa := fun n => n) (l := l) (X := (fun _ => True)) hPX hsl (fun _ _ h _ => h) (fun _ _ _ h => absurd h List.not_mem_nil) qMU qRE qNX
  have qET2 := rxQET2 (PX := PX) (Dg := Dg) (A := A) (ad := ad) (xa := fun n => n) (l := l) (X := (fun _ => True)) hPX hsl (fun _ _ h _ => h) (fun _ _ _ h => absurd h List.not_mem_nil) qMU
  have qLW2 := rxQLW2 (PX := PX) (Dg := Dg) (A := A) (ad := ad) (xa := fun n => n) (l := l) (X := (fun _ => True)) hPX hsl (fun _ _ h _ => h) (fun _ _ _ h => absurd h List.not_mem_nil) qBX qRL qNX qET2
  exact rx_conW (rx_conX qLW2 (fun S0 ws h => h) (fun S0 ws S w _ _ h => h.1)) (fun _ _ _ _ h => h.2)
/-! CONTRACT BY HAND, by program (wip/sim/genhand.py): DeadUnderstudiesModel.play -/
def rxIPW2_0 (S0 : Nat → Int → Int) (ws : List Int) (S : Nat → Int → Int) (part : Int) : Prop := rxI240_0 S0 ws S part ∧ True
def rxmPW2_0 (S0 : Nat → Int → Int) (ws : List Int) (S : Nat → Int → Int) (part : Int) : Nat := rxm240_0 S0 ws S part
def rxzPW2_0 : rx_Z := ([(0, 0), (0, 0), (0, 0), (0, 0), (0, 0), (0, 0), (0, 0), (0, 0), ((-2147483648), 2147483647)], [], [], 0, 0, 0, [(0, .inr (3, (0, 480))), (1, .inr (0, (8, 0)))], [])
def rxIPW2_1 (S0 : Nat → Int → Int) (ws : List Int) (S : Nat → Int → Int) (part : Int) : Prop := rxI240_1 S0 ws S part ∧ ws = [480, part] ∧ 0 ≤ part ∧ part < S0 482 0
def rxmPW2_1 (S0 : Nat → Int → Int) (ws : List Int) (S : Nat → Int → Int) (part : Int) : Nat := rxm240_1 S0 ws S part
def rxzPW2_1 : rx_Z := ([(0, 0), (0, 0), (0, 0), (0, 0), (0, 0), (0, 0), (0, 0), (0, 0), (0, 5)], [], [], 0, 0, 22, [(0, .inr (3, (0, 480))), (1, .inr (0, (8, 0)))], [.inr (0, (0, 1)), .inr (3, (0, 480))])
def rxIPW2_2 (S0 : Nat → Int → Int) (ws : List Int) (S : Nat → Int → Int) (part : Int) : Prop := rxI240_2 S0 ws S part ∧ ws = [480, part] ∧ 0 ≤ part ∧ part < S0 482 0
def rxmPW2_2 (S0 : Nat → Int → Int) (ws : List Int) (S : Nat → Int → Int) (part : Int) : Nat := rxm240_2 S0 ws S part
def rxzPW2_2 : rx_Z := ([(0, 0), (0, 0), (0, 0), (0, 0), (0, 0), (0, 0), (0, 0), (0, 0), (0, 5)], [], [], 0, 0, 25, [(0, .inr (3, (0, 480))), (1, .inr (0, (8, 0)))], [])
def rxIPW2_3 (S0 : Nat → Int → Int) (ws : List Int) (S : Nat → Int → Int) (part : Int) : Prop := rxI240_3 S0 ws S part ∧ ws = [480, part] ∧ 0 ≤ part ∧ part < S0 482 0
def rxmPW2_3 (S0 : Nat → Int → Int) (ws : List Int) (S : Nat → Int → Int) (part : Int) : Nat := rxm240_3 S0 ws S part
def rxzPW2_3 : rx_Z := ([(0, 0), (0, 0), (0, 0), (0, 0), (0, 0), (0, 0), (0, 0), (0, 0), (0, 5)], [], [], 0, 0, 26, [(0, .inr (3, (0, 480))), (1, .inr (0, (8, 0)))], [.inr (3, (0, 480))])
def rxIPW2_4 (S0 : Nat → Int → Int) (ws : List Int) (S : Nat → Int → Int) (part : Int) : Prop := rxI240_4 S0 ws S part ∧ ws = [480, part] ∧ 0 ≤ part ∧ part < S0 482 0
def rxmPW2_4 (S0 : Nat → Int → Int) (ws : List Int) (S : Nat → Int → Int) (part : Int) : Nat := rxm240_4 S0 ws S part
def rxzPW2_4 : rx_Z := ([(0, 0), (0, 0), (0, 0), (0, 0), (0, 0), (0, 0), (0, 0), (0, 0), (0, 5)], [], [], 0, 0, 29, [(0, .inr (3, (0, 480))), (1, .inr (0, (8, 0)))], [])
def rxIPW2_5 (S0 : Nat → Int → Int) (ws : List Int) (S : Nat → Int → Int) (part : Int) : Prop := rxI240_5 S0 ws S part ∧ ws = [480, part] ∧ 0 ≤ part ∧ part < S0 482 0
def rxmPW2_5 (S0 : Nat → Int → Int) (ws : List Int) (S : Nat → Int → Int) (part : Int) : Nat := rxm240_5 S0 ws S part
def rxzPW2_5 : rx_Z := ([(0, 0), (0, 0), (0, 0), (0, 0), (0, 0), (0, 0), (0, 0), (0, 0), (0, 5)], [], [], 0, 0, 29, [(0, .inr (3, (0, 480))), (1, .inr (0, (8, 0)))], [])
def rxIPW2_6 (S0 : Nat → Int → Int) (ws : List Int) (S : Nat → Int → Int) (part : Int) : Prop := rxI240_6 S0 ws S part ∧ ws = [480, part] ∧ 0 ≤ part ∧ part < S0 482 0
def rxmPW2_6 (S0 : Nat → Int → Int) (ws : List Int) (S : Nat → Int → Int) (part : Int) : Nat := rxm240_6 S0 ws S part
def rxzPW2_6 : rx_Z := ([(0, 0), (0, 0), (0, 0), (0, 0), (0, 0), (0, 0), (0, 0), (0, 0), (0, 5)], [], [], 0, 0, 46, [(0, .inr (3, (0, 480))), (1, .inr (0, (8, 0)))], [.inr (3, (0, 480))])
def rxIPW2_7 (S0 : Nat → Int → Int) (ws : List Int) (S : Nat → Int → Int) (part : Int) : Prop := rxI240_7 S0 ws S part ∧ ws = [480, part] ∧ 0 ≤ part ∧ part < S0 482 0
def rxmPW2_7 (S0 : Nat → Int → Int) (ws : List Int) (S : Nat → Int → Int) (part : Int) : Nat := rxm240_7 S0 ws S part
def rxzPW2_7 : rx_Z := ([(0, 0), (0, 0), (0, 0), (0, 0), (0, 0), (0, 0), (0, 0), (0, 0), (0, 5)], [], [], 0, 0, 49, [(0, .inr (3, (0, 480))), (1, .inr (0, (8, 0)))], [])
def rxIPW2_8 (S0 : Nat → Int → Int) (ws : List Int) (S : Nat → Int → Int) (part : Int) : Prop := rxI240_8 S0 ws S part ∧ ws = [480, part] ∧ 0 ≤ part ∧ part < S0 482 0
def rxmPW2_8 (S0 : Nat → Int → Int) (ws : List Int) (S : Nat → Int → Int) (part : Int) : Nat := rxm240_8 S0 ws S part
def rxzPW2_8 : rx_Z := ([(0, 0), (0, 0), (0, 0), (0, 0), (0, 0), (0, 0), (0, 0), (0, 0), (0, 5)], [], [], 0, 0, 50, [(0, .inr (3, (0, 480))), (1, .inr (0, (8, 0)))], [.inr (3, (0, 480))])
def rxIPW2_9 (S0 : Nat → Int → Int) (ws : List Int) (S : Nat → Int → Int) (part : Int) : Prop := rxI240_9 S0 ws S part ∧ ws = [480, part] ∧ 0 ≤ part ∧ part < S0 482 0
def rxmPW2_9 (S0 : Nat → Int → Int) (ws : List Int) (S : Nat → Int → Int) (part : Int) : Nat := rxm240_9 S0 ws S part
def rxzPW2_9 : rx_Z := ([(0, 0), (0, 0), (0, 0), (0, 0), (0, 0), (0, 0), (0, 0), (0, 0), (0, 5)], [], [], 0, 0, 53, [(0, .inr (3, (0, 480))), (1, .inr (0, (8, 0)))], [])
def rxIPW2_10 (S0 : Nat → Int → Int) (ws : List Int) (S : Nat → Int → Int) (part : Int) : Prop := rxI240_10 S0 ws S part ∧ ws = [480, part] ∧ 0 ≤ part ∧ part < S0 482 0
def rxmPW2_10 (S0 : Nat → Int → Int) (ws : List Int) (S : Nat → Int → Int) (part : Int) : Nat := rxm240_10 S0 ws S part
def rxzPW2_10 : rx_Z := ([(0, 0), (0, 0), (0, 0), (0, 0), (0, 0), (0, 0), (0, 0), (0, 0), (0, 5)], [], [], 0, 0, 57, [(0, .inr (3, (0, 480))), (1, .inr (0, (8, 0)))], [.inr (3, (0, 480))])
def rxIPW2_11 (S0 : Nat → Int → Int) (ws : List Int) (S : Nat → Int → Int) (part : Int) : Prop := rxI240_11 S0 ws S part ∧ ws = [480, part] ∧ 0 ≤ part ∧ part < S0 482 0 ∧ S 480 8 = 0
def rxmPW2_11 (S0 : Nat → Int → Int) (ws : List Int) (S : Nat → Int → Int) (part : Int) : Nat := rxm240_11 S0 ws S part
def rxzPW2_11 : rx_Z := ([(0, 0), (0, 0), (0, 0), (0, 0), (0, 0), (0, 0), (0, 0), (0, 0), (0, 5)], [], [], 0, 0, 60, [(0, .inr (3, (0, 480))), (1, .inr (0, (8, 0)))], [])
def rxIPW2_12 (S0 : Nat → Int → Int) (ws : List Int) (S : Nat → Int → Int) (part n at_ : Int) : Prop := rxI240_12 S0 ws S part n at_ ∧ ws = [480, part] ∧ 0 ≤ part ∧ part < S0 482 0 ∧ S 480 8 = 0
def rxmPW2_12 (S0 : Nat → Int → Int) (ws : List Int) (S : Nat → Int → Int) (part n at_ : Int) : Nat := rxm240_12 S0 ws S part n at_
def rxzPW2_12 : rx_Z := ([(0, 0), (0, 0), (0, 0), (0, 0), (0, 0), (0, 0), (0, 0), (0, 0), (0, 5), (0, 432), (0, 120)], [], [], 0, 0, 83, [(0, .inr (3, (0, 480))), (1, .inr (0, (8, 0))), (2, .inr (0, (9, 0))), (3, .inr (0, (10, 0)))], [])
def rxIPW2_13 (S0 : Nat → Int → Int) (ws : List Int) (S : Nat → Int → Int) (part n at_ c : Int) : Prop := rxI240_13 S0 ws S part n at_ c ∧ ws = [480, part] ∧ 0 ≤ part ∧ part < S0 482 0 ∧ S 480 8 = 0
def rxmPW2_13 (S0 : Nat → Int → Int) (ws : List Int) (S : Nat → Int → Int) (part n at_ c : Int) : Nat := rxm240_13 S0 ws S part n at_ c
def rxzPW2_13 : rx_Z := ([(0, 0), (0, 0), (0, 0), (0, 0), (0, 0), (0, 0), (0, 0), (0, 0), (0, 5), (0, 432), (0, 110), (0, 36)], [], [], 0, 0, 97, [(0, .inr (3, (0, 480))), (1, .inr (0, (8, 0))), (2, .inr (0, (9, 0))), (3, .inr (0, (10, 0))), (4, .inr (0, (11, 0)))], [])
def rxIPW2_14 (S0 : Nat → Int → Int) (ws : List Int) (S : Nat → Int → Int) (part at_ c n a_ pt d6 m6 : Int) : Prop := rxI240_14 S0 ws S part at_ c n a_ pt d6 m6 ∧ ws = [480, part] ∧ 0 ≤ part ∧ part < S0 482 0 ∧ S 480 8 = 0
def rxmPW2_14 (S0 : Nat → Int → Int) (ws : List Int) (S : Nat → Int → Int) (part at_ c n a_ pt d6 m6 : Int) : Nat := rxm240_14 S0 ws S part at_ c n a_ pt d6 m6
def rxzPW2_14 : rx_Z := ([(0, 0), (0, 0), (0, 0), (0, 0), (0, 0), (0, 0), (0, 0), (0, 0), (0, 5), (0, 110), (0, 35), (0, 431), (0, 110), (0, 5), (0, 5), (0, 5)], [], [], 0, 0, 182, [(0, .inr (3, (0, 480))), (1, .inr (0, (8, 0))), (3, .inr (0, (9, 0))), (4, .inr (0, (10, 0)))], [.inr (0, (15, 0)), .inr (0, (14, 0)), .inr (0, (13, 0)), .inr (0, (12, 0)), .inr (3, (0, 480)), .inr (0, (11, 0))])
def rxIPW2_15 (S0 : Nat → Int → Int) (ws : List Int) (S : Nat → Int → Int) (part at_ c n a_ pt d6 m6 so : Int) : Prop := rxI240_15 S0 ws S part at_ c n a_ pt d6 m6 so ∧ ws = [480, part] ∧ 0 ≤ part ∧ part < S0 482 0 ∧ S 480 8 = 0
def rxmPW2_15 (S0 : Nat → Int → Int) (ws : List Int) (S : Nat → Int → Int) (part at_ c n a_ pt d6 m6 so : Int) : Nat := rxm240_15 S0 ws S part at_ c n a_ pt d6 m6 so
def rxzPW2_15 : rx_Z := ([(0, 0), (0, 0), (0, 0), (0, 0), (0, 0), (0, 0), (0, 0), (0, 0), (0, 5), (0, 110), (0, 35), (0, 431), (0, 110), (0, 5), (0, 5), (0, 5), (0, 1)], [], [], 0, 0, 185, [(0, .inr (3, (0, 480))), (1, .inr (0, (8, 0))), (3, .inr (0, (9, 0))), (4, .inr (0, (10, 0)))], [.inr (0, (16, 0)), .inr (0, (11, 0))])
def rxoPW2_0_0 : bx_HO := (([(0, 0), (0, 0), (0, 0), (0, 0), (0, 0), (0, 0), (0, 0), (0, 0), (0, 5), (1, 6)], [(1, (8, 0), (9, (-1)))], [(((0, 0), 1851192626986356797424340330377019318111018015026043177837658112000000), .inr (0, (9, 0))), (((0, 482), 0), .inr (0, (9, 0))), (((0, 480), 3), .inr (3, (0, 482))), (((0, 0), 1851192626986356797424340330377019318111018015026043177836478467000000), .inr (0, (0, 0))), (((0, 480), 0), .inr (0, (0, 0)))], 0, 0, 22, [(0, .inr (3, (0, 480))), (1, .inr (0, (8, 0)))], [.inr (0, (0, 1)), .inr (3, (0, 480))]), [], [], [(0, 0), (0, 0), (0, 0), (0, 0), (0, 0), (0, 0), (0, 0), (0, 0), (8, 0)], 1)
def rxePW2_0_0 : rx_End × List (Nat × Int × Int) := (([(0, 0), (0, 0), (0, 0), (0, 0), (0, 0), (0, 0), (0, 0), (0, 0), (0, 2147483647), (0, 6), ((-2147483648), 2147483647), ((-2147483648), 2147483647)], [(0, (9, (-1)), (8, 0))], [(((0, 0), 1851192626986356797825753743950570534658660943933713684944715779000000), .inr (0, (11, 0))), (((0, 481), 2), .inr (0, (11, 0))), (((0, 0), 1851192626986356797825753743950570534658660943933713684944715776000000), .inr (0, (10, 0))), (((0, 480), 2), .inr (3, (0, 481))), (((0, 0), 1851192626986356797625047037163794926384839479479878431390302211000000), .inr (0, (0, (-2)))), (((0, 480), 1), .inr (0, (0, (-2)))), (((0, 0), 1851192626986356797424340330377019318111018015026043177837658112000000), .inr (0, (9, 0))), (((0, 482), 0), .inr (0, (9, 0))), (((0, 480), 3), .inr (3, (0, 482))), (((0, 0), 1851192626986356797424340330377019318111018015026043177836478467000000), .inr (0, (0, 0))), (((0, 480), 0), .inr (0, (0, 0)))], some (.inr (0, (0, (-2))))), [])
def rxePW2_0_1 : rx_End × List (Nat × Int × Int) := (([(0, 0), (0, 0), (0, 0), (0, 0), (0, 0), (0, 0), (0, 0), (0, 0), ((-2147483648), (-1)), (0, 6), ((-2147483648), 2147483647), ((-2147483648), 2147483647)], [], [(((0, 0), 1851192626986356797825753743950570534658660943933713684944715779000000), .inr (0, (11, 0))), (((0, 481), 2), .inr (0, (11, 0))), (((0, 0), 1851192626986356797825753743950570534658660943933713684944715776000000), .inr (0, (10, 0))), (((0, 480), 2), .inr (3, (0, 481))), (((0, 0), 1851192626986356797625047037163794926384839479479878431390302211000000), .inr (0, (0, (-2)))), (((0, 480), 1), .inr (0, (0, (-2)))), (((0, 0), 1851192626986356797424340330377019318111018015026043177837658112000000), .inr (0, (9, 0))), (((0, 482), 0), .inr (0, (9, 0))), (((0, 480), 3), .inr (3, (0, 482))), (((0, 0), 1851192626986356797424340330377019318111018015026043177836478467000000), .inr (0, (0, 0))), (((0, 480), 0), .inr (0, (0, 0)))], some (.inr (0, (0, (-2))))), [])
def rxoPW2_2_0 : bx_HO := (([(0, 0), (0, 0), (0, 0), (0, 0), (0, 0), (0, 0), (0, 0), (0, 0), (0, 5)], [], [], 0, 0, 26, [(0, .inr (3, (0, 480))), (1, .inr (0, (8, 0)))], [.inr (3, (0, 480))]), [], [], [(0, 0), (0, 0), (0, 0), (0, 0), (0, 0), (0, 0), (0, 0), (0, 0), (8, 0)], 3)
def rxoPW2_4_0 : bx_HO := (([(0, 0), (0, 0), (0, 0), (0, 0), (0, 0), (0, 0), (0, 0), (0, 0), (0, 5), (0, 0), (0, 2)], [(3, (10, 0), (0, 3))], [(((0, 0), 1851192626986356799632114105031551009123054124018230966928539648000000), .inr (0, (10, 0))), (((0, 480), 11), .inr (0, (10, 0))), (((0, 0), 1851192626986356800234234225391877833944518517379736727590010880000000), .inr (0, (9, 0))), (((0, 480), 14), .inr (0, (9, 0)))], 0, 0, 57, [(0, .inr (3, (0, 480))), (1, .inr (0, (8, 0)))], [.inr (3, (0, 480))]), [], [], [(0, 0), (0, 0), (0, 0), (0, 0), (0, 0), (0, 0), (0, 0), (0, 0), (8, 0)], 10)
def rxoPW2_4_1 : bx_HO := (([(0, 0), (0, 0), (0, 0), (0, 0), (0, 0), (0, 0), (0, 0), (0, 0), (0, 5), (0, 0), (3, 3), ((-9223372036854775808), 9223372036854775807)], [(3, (11, 0), (0, 59))], [(((0, 0), 1851192626986356799832820811818326617396875588472066220482363392000000), .inr (1, (11, 0))), (((0, 480), 12), .inr (1, (11, 0))), (((0, 0), 1851192626986356799632114105031551009123054124018230966928539648000000), .inr (0, (10, 0))), (((0, 480), 11), .inr (0, (10, 0))), (((0, 0), 1851192626986356800234234225391877833944518517379736727590010880000000), .inr (0, (9, 0))), (((0, 480), 14), .inr (0, (9, 0)))], 0, 0, 57, [(0, .inr (3, (0, 480))), (1, .inr (0, (8, 0)))], [.inr (3, (0, 480))]), [], [], [(0, 0), (0, 0), (0, 0), (0, 0), (0, 0), (0, 0), (0, 0), (0, 0), (8, 0)], 10)
def rxoPW2_4_2 : bx_HO := (([(0, 0), (0, 0), (0, 0), (0, 0), (0, 0), (0, 0), (0, 0), (0, 0), (0, 5), (0, 0), (3, 3), (59, 59)], [], [(((0, 0), 1851192626986356799832820811818326617396875588472066220482363392000000), .inr (1, (11, 0))), (((0, 480), 12), .inr (1, (11, 0))), (((0, 0), 1851192626986356799632114105031551009123054124018230966928539648000000), .inr (0, (10, 0))), (((0, 480), 11), .inr (0, (10, 0))), (((0, 0), 1851192626986356800234234225391877833944518517379736727590010880000000), .inr (0, (9, 0))), (((0, 480), 14), .inr (0, (9, 0)))], 0, 0, 46, [(0, .inr (3, (0, 480))), (1, .inr (0, (8, 0)))], [.inr (3, (0, 480))]), [], [], [(0, 0), (0, 0), (0, 0), (0, 0), (0, 0), (0, 0), (0, 0), (0, 0), (8, 0)], 6)
def rxoPW2_4_3 : bx_HO := (([(0, 0), (0, 0), (0, 0), (0, 0), (0, 0), (0, 0), (0, 0), (0, 0), (0, 5), (1, 1)], [(3, (9, 0), (0, 0))], [(((0, 0), 1851192626986356800234234225391877833944518517379736727590010880000000), .inr (0, (9, 0))), (((0, 480), 14), .inr (0, (9, 0)))], 0, 0, 57, [(0, .inr (3, (0, 480))), (1, .inr (0, (8, 0)))], [.inr (3, (0, 480))]), [], [], [(0, 0), (0, 0), (0, 0), (0, 0), (0, 0), (0, 0), (0, 0), (0, 0), (8, 0)], 10)
def rxoPW2_5_0 : bx_HO := (([(0, 0), (0, 0), (0, 0), (0, 0), (0, 0), (0, 0), (0, 0), (0, 0), (0, 5), (0, 0), (0, 2)], [(3, (10, 0), (0, 3))], [(((0, 0), 1851192626986356799632114105031551009123054124018230966928539648000000), .inr (0, (10, 0))), (((0, 480), 11), .inr (0, (10, 0))), (((0, 0), 1851192626986356800234234225391877833944518517379736727590010880000000), .inr (0, (9, 0))), (((0, 480), 14), .inr (0, (9, 0)))], 0, 0, 57, [(0, .inr (3, (0, 480))), (1, .inr (0, (8, 0)))], [.inr (3, (0, 480))]), [], [], [(0, 0), (0, 0), (0, 0), (0, 0), (0, 0), (0, 0), (0, 0), (0, 0), (8, 0)], 10)
def rxoPW2_5_1 : bx_HO := (([(0, 0), (0, 0), (0, 0), (0, 0), (0, 0), (0, 0), (0, 0), (0, 0), (0, 5), (0, 0), (3, 3), ((-9223372036854775808), 9223372036854775807)], [(3, (11, 0), (0, 59))], [(((0, 0), 1851192626986356799832820811818326617396875588472066220482363392000000), .inr (1, (11, 0))), (((0, 480), 12), .inr (1, (11, 0))), (((0, 0), 1851192626986356799632114105031551009123054124018230966928539648000000), .inr (0, (10, 0))), (((0, 480), 11), .inr (0, (10, 0))), (((0, 0), 1851192626986356800234234225391877833944518517379736727590010880000000), .inr (0, (9, 0))), (((0, 480), 14), .inr (0, (9, 0)))], 0, 0, 57, [(0, .inr (3, (0, 480))), (1, .inr (0, (8, 0)))], [.inr (3, (0, 480))]), [], [], [(0, 0), (0, 0), (0, 0), (0, 0), (0, 0), (0, 0), (0, 0), (0, 0), (8, 0)], 10)
def rxoPW2_5_2 : bx_HO := (([(0, 0), (0, 0), (0, 0), (0, 0), (0, 0), (0, 0), (0, 0), (0, 0), (0, 5), (0, 0), (3, 3), (59, 59)], [], [(((0, 0), 1851192626986356799832820811818326617396875588472066220482363392000000), .inr (1, (11, 0))), (((0, 480), 12), .inr (1, (11, 0))), (((0, 0), 1851192626986356799632114105031551009123054124018230966928539648000000), .inr (0, (10, 0))), (((0, 480), 11), .inr (0, (10, 0))), (((0, 0), 1851192626986356800234234225391877833944518517379736727590010880000000), .inr (0, (9, 0))), (((0, 480), 14), .inr (0, (9, 0)))], 0, 0, 46, [(0, .inr (3, (0, 480))), (1, .inr (0, (8, 0)))], [.inr (3, (0, 480))]), [], [], [(0, 0), (0, 0), (0, 0), (0, 0), (0, 0), (0, 0), (0, 0), (0, 0), (8, 0)], 6)
def rxoPW2_5_3 : bx_HO := (([(0, 0), (0, 0), (0, 0), (0, 0), (0, 0), (0, 0), (0, 0), (0, 0), (0, 5), (1, 1)], [(3, (9, 0), (0, 0))], [(((0, 0), 1851192626986356800234234225391877833944518517379736727590010880000000), .inr (0, (9, 0))), (((0, 480), 14), .inr (0, (9, 0)))], 0, 0, 57, [(0, .inr (3, (0, 480))), (1, .inr (0, (8, 0)))], [.inr (3, (0, 480))]), [], [], [(0, 0), (0, 0), (0, 0), (0, 0), (0, 0), (0, 0), (0, 0), (0, 0), (8, 0)], 10)
def rxoPW2_7_0 : bx_HO := (([(0, 0), (0, 0), (0, 0), (0, 0), (0, 0), (0, 0), (0, 0), (0, 0), (0, 5)], [], [], 0, 0, 50, [(0, .inr (3, (0, 480))), (1, .inr (0, (8, 0)))], [.inr (3, (0, 480))]), [], [], [(0, 0), (0, 0), (0, 0), (0, 0), (0, 0), (0, 0), (0, 0), (0, 0), (8, 0)], 8)
def rxoPW2_9_0 : bx_HO := (([(0, 0), (0, 0), (0, 0), (0, 0), (0, 0), (0, 0), (0, 0), (0, 0), (0, 5)], [], [], 0, 0, 29, [(0, .inr (3, (0, 480))), (1, .inr (0, (8, 0)))], []), [], [], [(0, 0), (0, 0), (0, 0), (0, 0), (0, 0), (0, 0), (0, 0), (0, 0), (8, 0)], 5)
def rxoPW2_11_0 : bx_HO := (([(0, 0), (0, 0), (0, 0), (0, 0), (0, 0), (0, 0), (0, 0), (0, 0), (0, 5), (0, 0)], [], [(((0, 0), 1851192626986356800434940932178653442218339981833571981143834627000000), .inr (0, (0, 1))), (((0, 480), 15), .inr (0, (0, 1))), (((0, 0), 1851192626986356800234234225391877833944518517379736727590010880000000), .inr (0, (9, 0))), (((0, 480), 14), .inr (0, (9, 0)))], 0, 0, 83, [(3, .inr (0, (0, 0))), (2, .inr (0, (0, 0))), (0, .inr (3, (0, 480))), (1, .inr (0, (8, 0)))], []), [], [], [(0, 0), (0, 0), (0, 0), (0, 0), (0, 0), (0, 0), (0, 0), (0, 0), (8, 0), (0, 0), (0, 0)], 12)
def rxePW2_11_0 : rx_End × List (Nat × Int × Int) := (([(0, 0), (0, 0), (0, 0), (0, 0), (0, 0), (0, 0), (0, 0), (0, 0), (0, 5), (1, 1), ((-2147483648), 2147483647), ((-2147483648), 2147483647)], [(3, (9, 0), (0, 0))], [(((0, 0), 1851192626986356798628580571097672967753946801749054699160010755000000), .inr (0, (11, 0))), (((0, 481), 6), .inr (0, (11, 0))), (((0, 0), 1851192626986356798628580571097672967753946801749054699160010752000000), .inr (0, (10, 0))), (((0, 480), 2), .inr (3, (0, 481))), (((0, 0), 1851192626986356797625047037163794926384839479479878431390302211000000), .inr (0, (0, (-6)))), (((0, 480), 1), .inr (0, (0, (-6)))), (((0, 0), 1851192626986356800234234225391877833944518517379736727590010880000000), .inr (0, (9, 0))), (((0, 480), 14), .inr (0, (9, 0)))], some (.inr (0, (0, (-6))))), [])
def rxoPW2_12_0 : bx_HO := (([(0, 0), (0, 0), (0, 0), (0, 0), (0, 0), (0, 0), (0, 0), (0, 0), (0, 5), (0, 432), (0, 119), (0, 12), (1, 120)], [(0, (10, 0), (12, 0)), (14, (12, 0), (11, 0))], [(((0, 0), 1851192626986356800635647638965429050492161446287407234697658368000000), .inr (0, (11, 0))), (((0, 480), 16), .inr (0, (11, 0)))], 0, 0, 97, [(4, .inr (0, (0, 0))), (0, .inr (3, (0, 480))), (1, .inr (0, (8, 0))), (2, .inr (0, (9, 0))), (3, .inr (0, (10, 0)))], []), [(10, 0, 110)], [], [(0, 0), (0, 0), (0, 0), (0, 0), (0, 0), (0, 0), (0, 0), (0, 0), (8, 0), (9, 0), (10, 0), (0, 0)], 13)
def rxePW2_12_0 : rx_End × List (Nat × Int × Int) := (([(0, 0), (0, 0), (0, 0), (0, 0), (0, 0), (0, 0), (0, 0), (0, 0), (0, 5), (0, 432), (0, 120), (0, 12), (0, 120)], [(1, (12, 0), (10, 0)), (14, (12, 0), (11, 0))], [(((0, 0), 1851192626986356797625047037163794926384839479479878431390302211000000), .inr (0, (0, 0))), (((0, 480), 1), .inr (0, (0, 0))), (((0, 0), 1851192626986356800434940932178653442218339981833571981143834627000000), .inr (0, (0, 0))), (((0, 480), 15), .inr (0, (0, 0))), (((0, 0), 1851192626986356800635647638965429050492161446287407234697658368000000), .inr (0, (11, 0))), (((0, 480), 16), .inr (0, (11, 0)))], some (.inr (0, (9, 0)))), [])
def rxoPW2_13_0 : bx_HO := (([(0, 0), (0, 0), (0, 0), (0, 0), (0, 0), (0, 0), (0, 0), (0, 0), (0, 5), (0, 432), (0, 110), (0, 35), ((-2147483648), 2147483647), (0, 5), (0, 5), ((-2147483648), 2147483647), (0, 5), (0, 5), (0, 5), (0, 5)], [(2, (16, 0), (17, 0)), (3, (15, 0), (0, (-1))), (2, (13, 0), (14, 0)), (3, (12, 0), (0, (-1)))], [(((0, 0), 1851192626986356797625077662576817810846551183194547290538770432000000), .inr (0, (16, 0))), (((0, 0), 1851192626986356797625077662576817810846551183194547290538770432000000), .inr (0, (15, 0))), (((0, 0), 1851192626986356797424370955790042202572729718740712036984946688000000), .inr (0, (13, 0))), (((0, 0), 1851192626986356797424370955790042202572729718740712036984946688000000), .inr (0, (12, 0))), (((0, 480), 35), .inr (3, (0, 496)))], 0, 0, 182, [(5, .inr (0, (0, 1))), (0, .inr (3, (0, 480))), (1, .inr (0, (8, 0))), (2, .inr (0, (9, 0))), (3, .inr (0, (10, 0))), (4, .inr (0, (11, 0)))], [.inr (0, (19, 0)), .inr (0, (18, 0)), .inr (0, (8, 0)), .inr (0, (10, 0)), .inr (3, (0, 480)), .inr (0, (9, 0))]), [(9, 0, 431)], [], [(0, 0), (0, 0), (0, 0), (0, 0), (0, 0), (0, 0), (0, 0), (0, 0), (8, 0), (10, 0), (11, 0), (9, 0), (10, 0), (8, 0), (18, 0), (19, 0)], 14)
def rxoPW2_13_1 : bx_HO := (([(0, 0), (0, 0), (0, 0), (0, 0), (0, 0), (0, 0), (0, 0), (0, 0), (0, 5), (0, 432), (0, 110), (0, 35), ((-2147483648), 2147483647), (0, 5), (0, 5), ((-2147483648), 2147483647), ((-2147483648), 2147483647), (0, 5)], [(3, (16, 0), (17, 0)), (3, (15, 0), (0, (-1))), (2, (13, 0), (14, 0)), (3, (12, 0), (0, (-1)))], [(((0, 0), 1851192626986356797625077662576817810846551183194547290538770432000000), .inr (0, (16, 0))), (((0, 0), 1851192626986356797625077662576817810846551183194547290538770432000000), .inr (0, (15, 0))), (((0, 0), 1851192626986356797424370955790042202572729718740712036984946688000000), .inr (0, (13, 0))), (((0, 0), 1851192626986356797424370955790042202572729718740712036984946688000000), .inr (0, (12, 0))), (((0, 480), 35), .inr (3, (0, 496)))], 0, 0, 97, [(4, .inr (0, (11, 1))), (2, .inr (0, (9, 0))), (5, .inr (0, (0, 0))), (0, .inr (3, (0, 480))), (1, .inr (0, (8, 0))), (3, .inr (0, (10, 0)))], []), [], [], [(0, 0), (0, 0), (0, 0), (0, 0), (0, 0), (0, 0), (0, 0), (0, 0), (8, 0), (9, 0), (10, 0), (11, 1)], 13)
def rxoPW2_13_2 : bx_HO := (([(0, 0), (0, 0), (0, 0), (0, 0), (0, 0), (0, 0), (0, 0), (0, 0), (0, 5), (0, 432), (0, 110), (0, 35), ((-2147483648), 2147483647), (0, 5), (0, 5), ((-1), (-1)), (0, 5), (0, 5)], [(2, (13, 0), (14, 0)), (3, (12, 0), (0, (-1)))], [(((0, 0), 1851192626986356797625077662576817810846551183194547290538770432000000), .inr (0, (15, 0))), (((0, 0), 1851192626986356797424370955790042202572729718740712036984946688000000), .inr (0, (13, 0))), (((0, 0), 1851192626986356797424370955790042202572729718740712036984946688000000), .inr (0, (12, 0))), (((0, 480), 35), .inr (3, (0, 496)))], 0, 0, 182, [(5, .inr (0, (0, 1))), (0, .inr (3, (0, 480))), (1, .inr (0, (8, 0))), (2, .inr (0, (9, 0))), (3, .inr (0, (10, 0))), (4, .inr (0, (11, 0)))], [.inr (0, (17, 0)), .inr (0, (16, 0)), .inr (0, (8, 0)), .inr (0, (10, 0)), .inr (3, (0, 480)), .inr (0, (9, 0))]), [(9, 0, 431)], [], [(0, 0), (0, 0), (0, 0), (0, 0), (0, 0), (0, 0), (0, 0), (0, 0), (8, 0), (10, 0), (11, 0), (9, 0), (10, 0), (8, 0), (16, 0), (17, 0)], 14)
def rxoPW2_13_3 : bx_HO := (([(0, 0), (0, 0), (0, 0), (0, 0), (0, 0), (0, 0), (0, 0), (0, 0), (0, 5), (0, 432), (0, 110), (0, 35), ((-2147483648), 2147483647), ((-2147483648), 2147483647), (0, 5)], [(3, (13, 0), (14, 0)), (3, (12, 0), (0, (-1)))], [(((0, 0), 1851192626986356797424370955790042202572729718740712036984946688000000), .inr (0, (13, 0))), (((0, 0), 1851192626986356797424370955790042202572729718740712036984946688000000), .inr (0, (12, 0))), (((0, 480), 35), .inr (3, (0, 496)))], 0, 0, 97, [(4, .inr (0, (11, 1))), (2, .inr (0, (9, 0))), (5, .inr (0, (0, 0))), (0, .inr (3, (0, 480))), (1, .inr (0, (8, 0))), (3, .inr (0, (10, 0)))], []), [], [], [(0, 0), (0, 0), (0, 0), (0, 0), (0, 0), (0, 0), (0, 0), (0, 0), (8, 0), (9, 0), (10, 0), (11, 1)], 13)
def rxoPW2_13_4 : bx_HO := (([(0, 0), (0, 0), (0, 0), (0, 0), (0, 0), (0, 0), (0, 0), (0, 0), (0, 5), (0, 432), (0, 110), (0, 35), ((-1), (-1)), ((-2147483648), 2147483647), (0, 5), (0, 5), (0, 5), (0, 5)], [(2, (14, 0), (15, 0)), (3, (13, 0), (0, (-1)))], [(((0, 0), 1851192626986356797625077662576817810846551183194547290538770432000000), .inr (0, (14, 0))), (((0, 0), 1851192626986356797625077662576817810846551183194547290538770432000000), .inr (0, (13, 0))), (((0, 0), 1851192626986356797424370955790042202572729718740712036984946688000000), .inr (0, (12, 0))), (((0, 480), 35), .inr (3, (0, 496)))], 0, 0, 182, [(5, .inr (0, (0, 1))), (0, .inr (3, (0, 480))), (1, .inr (0, (8, 0))), (2, .inr (0, (9, 0))), (3, .inr (0, (10, 0))), (4, .inr (0, (11, 0)))], [.inr (0, (17, 0)), .inr (0, (16, 0)), .inr (0, (8, 0)), .inr (0, (10, 0)), .inr (3, (0, 480)), .inr (0, (9, 0))]), [(9, 0, 431)], [], [(0, 0), (0, 0), (0, 0), (0, 0), (0, 0), (0, 0), (0, 0), (0, 0), (8, 0), (10, 0), (11, 0), (9, 0), (10, 0), (8, 0), (16, 0), (17, 0)], 14)
def rxoPW2_13_5 : bx_HO := (([(0, 0), (0, 0), (0, 0), (0, 0), (0, 0), (0, 0), (0, 0), (0, 0), (0, 5), (0, 432), (0, 110), (0, 35), ((-1), (-1)), ((-2147483648), 2147483647), ((-2147483648), 2147483647), (0, 5)], [(3, (14, 0), (15, 0)), (3, (13, 0), (0, (-1)))], [(((0, 0), 1851192626986356797625077662576817810846551183194547290538770432000000), .inr (0, (14, 0))), (((0, 0), 1851192626986356797625077662576817810846551183194547290538770432000000), .inr (0, (13, 0))), (((0, 0), 1851192626986356797424370955790042202572729718740712036984946688000000), .inr (0, (12, 0))), (((0, 480), 35), .inr (3, (0, 496)))], 0, 0, 97, [(4, .inr (0, (11, 1))), (2, .inr (0, (9, 0))), (5, .inr (0, (0, 0))), (0, .inr (3, (0, 480))), (1, .inr (0, (8, 0))), (3, .inr (0, (10, 0)))], []), [], [], [(0, 0), (0, 0), (0, 0), (0, 0), (0, 0), (0, 0), (0, 0), (0, 0), (8, 0), (9, 0), (10, 0), (11, 1)], 13)
def rxoPW2_13_6 : bx_HO := (([(0, 0), (0, 0), (0, 0), (0, 0), (0, 0), (0, 0), (0, 0), (0, 0), (0, 5), (0, 432), (0, 110), (0, 35), ((-1), (-1)), ((-1), (-1)), (0, 5), (0, 5)], [], [(((0, 0), 1851192626986356797625077662576817810846551183194547290538770432000000), .inr (0, (13, 0))), (((0, 0), 1851192626986356797424370955790042202572729718740712036984946688000000), .inr (0, (12, 0))), (((0, 480), 35), .inr (3, (0, 496)))], 0, 0, 182, [(5, .inr (0, (0, 1))), (0, .inr (3, (0, 480))), (1, .inr (0, (8, 0))), (2, .inr (0, (9, 0))), (3, .inr (0, (10, 0))), (4, .inr (0, (11, 0)))], [.inr (0, (15, 0)), .inr (0, (14, 0)), .inr (0, (8, 0)), .inr (0, (10, 0)), .inr (3, (0, 480)), .inr (0, (9, 0))]), [(9, 0, 431)], [], [(0, 0), (0, 0), (0, 0), (0, 0), (0, 0), (0, 0), (0, 0), (0, 0), (8, 0), (10, 0), (11, 0), (9, 0), (10, 0), (8, 0), (14, 0), (15, 0)], 14)
def rxoPW2_13_7 : bx_HO := (([(0, 0), (0, 0), (0, 0), (0, 0), (0, 0), (0, 0), (0, 0), (0, 0), (0, 5), (0, 432), (0, 110), (36, 36)], [], [], 0, 0, 83, [(3, .inr (0, (10, 10))), (0, .inr (3, (0, 480))), (1, .inr (0, (8, 0))), (2, .inr (0, (9, 0))), (4, .inr (0, (11, 0)))], []), [], [], [(0, 0), (0, 0), (0, 0), (0, 0), (0, 0), (0, 0), (0, 0), (0, 0), (8, 0), (9, 0), (10, 10)], 12)
def rxoPW2_15_0 : bx_HO := (([(0, 0), (0, 0), (0, 0), (0, 0), (0, 0), (0, 0), (0, 0), (0, 0), (0, 5), (0, 110), (0, 35), (0, 431), (0, 110), (0, 5), (0, 5), (0, 5), (1, 1)], [(3, (16, 0), (0, 0))], [], 0, 0, 97, [(4, .inr (0, (10, 1))), (2, .inr (0, (11, 1))), (0, .inr (3, (0, 480))), (1, .inr (0, (8, 0))), (3, .inr (0, (9, 0)))], []), [], [], [(0, 0), (0, 0), (0, 0), (0, 0), (0, 0), (0, 0), (0, 0), (0, 0), (8, 0), (11, 1), (9, 0), (10, 1)], 13)
def rxoPW2_15_1 : bx_HO := (([(0, 0), (0, 0), (0, 0), (0, 0), (0, 0), (0, 0), (0, 0), (0, 0), (0, 5), (0, 110), (0, 35), (0, 431), (0, 110), (0, 5), (0, 5), (0, 5), (0, 0)], [], [], 0, 0, 97, [(4, .inr (0, (10, 1))), (2, .inr (0, (11, 0))), (0, .inr (3, (0, 480))), (1, .inr (0, (8, 0))), (3, .inr (0, (9, 0)))], []), [], [], [(0, 0), (0, 0), (0, 0), (0, 0), (0, 0), (0, 0), (0, 0), (0, 0), (8, 0), (11, 0), (9, 0), (10, 1)], 13)
def rxYPW2 : List bx_HE := [(rxzPW2_0, [rxoPW2_0_0], [rxePW2_0_0, rxePW2_0_1]), (rxzPW2_1, [], []), (rxzPW2_2, [rxoPW2_2_0], []), (rxzPW2_3, [], []), (rxzPW2_4, [rxoPW2_4_0, rxoPW2_4_1, rxoPW2_4_2, rxoPW2_4_3], []), (rxzPW2_5, [rxoPW2_5_0, rxoPW2_5_1, rxoPW2_5_2, rxoPW2_5_3], []), (rxzPW2_6, [], []), (rxzPW2_7, [rxoPW2_7_0], []), (rxzPW2_8, [], []), (rxzPW2_9, [rxoPW2_9_0], []), (rxzPW2_10, [], []), (rxzPW2_11, [rxoPW2_11_0], [rxePW2_11_0]), (rxzPW2_12, [rxoPW2_12_0], [rxePW2_12_0]), (rxzPW2_13, [rxoPW2_13_0, rxoPW2_13_1, rxoPW2_13_2, rxoPW2_13_3, rxoPW2_13_4, rxoPW2_13_5, rxoPW2_13_6, rxoPW2_13_7], []), (rxzPW2_14, [], []), (rxzPW2_15, [rxoPW2_15_0, rxoPW2_15_1], [])]
def rxUPW2 (q : bx_HE) : Bool := Nat.beq (rx_zpc q.1) 22 || Nat.beq (rx_zpc q.1) 26 || Nat.beq (rx_zpc q.1) 46 || Nat.beq (rx_zpc q.1) 50 || Nat.beq (rx_zpc q.1) 57 || Nat.beq (rx_zpc q.1) 182
def rxYBPW2 : bx_B := (rxV, rxNP, rxDmf, bx_mdH rxC240.2.2.1)
set_option maxRecDepth 100000 in
theorem rxYcPW2 : bx_chkH rxYBPW2 rxM240 rxC240 rxYPW2 (rxUPW2, fun cut z => rx_ex2 (rxCT rxYBPW2 rxCnE) cut 30000 rxC240.2.2.2.1 240 z) = true := by decide +kernel
def rxIPW2 (S0 : Nat → Int → Int) (ws : List Int) (i : Nat) : bx_SP := fun S r => match i with | 0 => rxIPW2_0 S0 ws S (r 8) | 1 => rxIPW2_1 S0 ws S (r 8) | 2 => rxIPW2_2 S0 ws S (r 8) | 3 => rxIPW2_3 S0 ws S (r 8) | 4 => rxIPW2_4 S0 ws S (r 8) | 5 => rxIPW2_5 S0 ws S (r 8) | 6 => rxIPW2_6 S0 ws S (r 8) | 7 => rxIPW2_7 S0 ws S (r 8) | 8 => rxIPW2_8 S0 ws S (r 8) | 9 => rxIPW2_9 S0 ws S (r 8) | 10 => rxIPW2_10 S0 ws S (r 8) | 11 => rxIPW2_11 S0 ws S (r 8) | 12 => rxIPW2_12 S0 ws S (r 8) (r 9) (r 10) | 13 => rxIPW2_13 S0 ws S (r 8) (r 9) (r 10) (r 11) | 14 => rxIPW2_14 S0 ws S (r 8) (r 9) (r 10) (r 11) (r 12) (r 13) (r 14) (r 15) | 15 => rxIPW2_15 S0 ws S (r 8) (r 9) (r 10) (r 11) (r 12) (r 13) (r 14) (r 15) (r 16) | _ => False
def rxmPW2 (S0 : Nat → Int → Int) (ws : List Int) (i : Nat) (S : Nat → Int → Int) (r : Nat → Int) : Nat := match i with | 0 => rxmPW2_0 S0 ws S (r 8) | 1 => rxmPW2_1 S0 ws S (r 8) | 2 => rxmPW2_2 S0 ws S (r 8) | 3 => rxmPW2_3 S0 ws S (r 8) | 4 => rxmPW2_4 S0 ws S (r 8) | 5 => rxmPW2_5 S0 ws S (r 8) | 6 => rxmPW2_6 S0 ws S (r 8) | 7 => rxmPW2_7 S0 ws S (r 8) | 8 => rxmPW2_8 S0 ws S (r 8) | 9 => rxmPW2_9 S0 ws S (r 8) | 10 => rxmPW2_10 S0 ws S (r 8) | 11 => rxmPW2_11 S0 ws S (r 8) | 12 => rxmPW2_12 S0 ws S (r 8) (r 9) (r 10) | 13 => rxmPW2_13 S0 ws S (r 8) (r 9) (r 10) (r 11) | 14 => rxmPW2_14 S0 ws S (r 8) (r 9) (r 10) (r 11) (r 12) (r 13) (r 14) (r 15) | 15 => rxmPW2_15 S0 ws S (r 8) (r 9) (r 10) (r 11) (r 12) (r 13) (r 14) (r 15) (r 16) | _ => 0
def rxPPW2 (S0 : Nat → Int → Int) (ws : List Int) : Prop := rxP240 S0 ws
def rxPSPW2 (S0 : Nat → Int → Int) (ws : List Int) (S : Nat → Int → Int) (w : Option Int) : Prop := rxPS240 S0 ws S w ∧ (∃ pa : Int, ws = [480, pa] ∧ (((pa < 0 ∨ S0 482 0 ≤ pa) ∧ True ∧ S 480 8 = S0 480 8) ∨ (0 ≤ pa ∧ pa < S0 482 0 ∧ True ∧ S 480 8 = 0)))
theorem rxkPW2_1 {S0 : Nat → Int → Int} {ws : List Int} {S : Nat → Int → Int} {part : Int} (hP : rxPPW2 S0 ws) (hin : bx_same rxL (bx_mdl rxC240.2.2.1) S0 S) (I0 : bx_Inv rxL S) (hinv : rxIPW2_1 S0 ws S part) (l8 : 0 ≤ part) (u8 : part ≤ 5) : rxPBX S [480, 1] ∧ ∀ (S' : Nat → Int → Int), rxPSBX S [480, 1] S' none → bx_Inv rxL S' → bx_same rxL (bx_mdl rxCBX.2.2.1) S S' → rxIPW2_2 S0 ws S' part ∧ rxmPW2_2 S0 ws S' part < rxmPW2_1 S0 ws S part := by
  obtain ⟨hI, hx⟩ := hinv
  have g_ := rxk240_1 hP hin I0 hI l8 u8
  exact ⟨g_.1, fun S' hq I1 hsm => ⟨⟨(g_.2 S' hq I1 hsm).1, hx⟩, (g_.2 S' hq I1 hsm).2⟩⟩
theorem rxsPW2_1 {X : (Nat → Int → Int) → Prop} {S0 : Nat → Int → Int} {ws : List Int} (hP : rxPPW2 S0 ws) : rx_obK X S0 rxC240.2.2.1 rxCBX.2.2.1 (rxIPW2 S0 ws) (rxmPW2 S0 ws) 1 2 rxzPW2_1 rxzPW2_2 [.inr (3, (0, 480)), .inr (0, (0, 1))] none rxPBX rxPSBX := by
  intro S r hinv hXS I0 hin hs_ hf_
  have b_ := bx_bds_sat hs_
  have f_ := bx_fcl_ok hs_.1 hf_
  obtain ⟨⟨l8, u8⟩, -⟩ := b_
  have g := rxkPW2_1 hP hin I0 hinv l8 u8
  have ea : List.map (bx_num r) [.inr (3, (0, 480)), .inr (0, (0, 1))] = [480, 1] := by
    simp only [List.map_cons, List.map_nil, bx_xv_ok hs_.1]
    rfl
  rw [ea]
  refine ⟨g.1, fun S' w r' hPS hX' I1 hsm hr hw hs' => ?_⟩
  have hw : w = none := hPS.1
  subst hw
  have g2 := g.2 S' hPS I1 hsm
  show rxIPW2_2 S0 ws S' (r' 8) ∧ rxmPW2_2 S0 ws S' (r' 8) < _
  rw [hr 8 (by decide)]
  exact g2
theorem rxkPW2_3 {S0 : Nat → Int → Int} {ws : List Int} {S : Nat → Int → Int} {part : Int} (hP : rxPPW2 S0 ws) (hin : bx_same rxL (bx_mdl rxC240.2.2.1) S0 S) (I0 : bx_Inv rxL S) (hinv : rxIPW2_3 S0 ws S part) (l8 : 0 ≤ part) (u8 : part ≤ 5) : rxPRY S [480] ∧ ∀ (S' : Nat → Int → Int), rxPSRY S [480] S' none → bx_Inv rxL S' → bx_same rxL (bx_mdl rxCRY.2.2.1) S S' → rxIPW2_4 S0 ws S' part ∧ rxmPW2_4 S0 ws S' part < rxmPW2_3 S0 ws S part := by
  obtain ⟨hI, hx⟩ := hinv
  have g_ := rxk240_3 hP hin I0 hI l8 u8
  exact ⟨g_.1, fun S' hq I1 hsm => ⟨⟨(g_.2 S' hq I1 hsm).1, hx⟩, (g_.2 S' hq I1 hsm).2⟩⟩
theorem rxsPW2_3 {X : (Nat → Int → Int) → Prop} {S0 : Nat → Int → Int} {ws : List Int} (hP : rxPPW2 S0 ws) : rx_obK X S0 rxC240.2.2.1 rxCRY.2.2.1 (rxIPW2 S0 ws) (rxmPW2 S0 ws) 3 4 rxzPW2_3 rxzPW2_4 [.inr (3, (0, 480))] none rxPRY rxPSRY := by
  intro S r hinv hXS I0 hin hs_ hf_
  have b_ := bx_bds_sat hs_
  have f_ := bx_fcl_ok hs_.1 hf_
  obtain ⟨⟨l8, u8⟩, -⟩ := b_
  have g := rxkPW2_3 hP hin I0 hinv l8 u8
  have ea : List.map (bx_num r) [.inr (3, (0, 480))] = [480] := by
    simp only [List.map_cons, List.map_nil, bx_xv_ok hs_.1]
    rfl
  rw [ea]
  refine ⟨g.1, fun S' w r' hPS hX' I1 hsm hr hw hs' => ?_⟩
  have hw : w = none := hPS.1
  subst hw
  have g2 := g.2 S' hPS I1 hsm
  show rxIPW2_4 S0 ws S' (r' 8) ∧ rxmPW2_4 S0 ws S' (r' 8) < _
  rw [hr 8 (by decide)]
  exact g2
theorem rxkPW2_6 {S0 : Nat → Int → Int} {ws : List Int} {S : Nat → Int → Int} {part : Int} (hP : rxPPW2 S0 ws) (hin : bx_same rxL (bx_mdl rxC240.2.2.1) S0 S) (I0 : bx_Inv rxL S) (hinv : rxIPW2_6 S0 ws S part) (l8 : 0 ≤ part) (u8 : part ≤ 5) : rxPNX S [480] ∧ ∀ (S' : Nat → Int → Int), rxPSNX S [480] S' none → bx_Inv rxL S' → bx_same rxL (bx_mdl rxCNX.2.2.1) S S' → rxIPW2_7 S0 ws S' part ∧ rxmPW2_7 S0 ws S' part < rxmPW2_6 S0 ws S part := by
  obtain ⟨hI, hx⟩ := hinv
  have g_ := rxk240_6 hP hin I0 hI l8 u8
  exact ⟨g_.1, fun S' hq I1 hsm => ⟨⟨(g_.2 S' hq I1 hsm).1, hx⟩, (g_.2 S' hq I1 hsm).2⟩⟩
theorem rxsPW2_6 {X : (Nat → Int → Int) → Prop} {S0 : Nat → Int → Int} {ws : List Int} (hP : rxPPW2 S0 ws) : rx_obK X S0 rxC240.2.2.1 rxCNX.2.2.1 (rxIPW2 S0 ws) (rxmPW2 S0 ws) 6 7 rxzPW2_6 rxzPW2_7 [.inr (3, (0, 480))] none rxPNX rxPSNX := by
  intro S r hinv hXS I0 hin hs_ hf_
  have b_ := bx_bds_sat hs_
  have f_ := bx_fcl_ok hs_.1 hf_
  obtain ⟨⟨l8, u8⟩, -⟩ := b_
  have g := rxkPW2_6 hP hin I0 hinv l8 u8
  have ea : List.map (bx_num r) [.inr (3, (0, 480))] = [480] := by
    simp only [List.map_cons, List.map_nil, bx_xv_ok hs_.1]
    rfl
  rw [ea]
  refine ⟨g.1, fun S' w r' hPS hX' I1 hsm hr hw hs' => ?_⟩
  have hw : w = none := hPS.1
  subst hw
  have g2 := g.2 S' hPS I1 hsm
  show rxIPW2_7 S0 ws S' (r' 8) ∧ rxmPW2_7 S0 ws S' (r' 8) < _
  rw [hr 8 (by decide)]
  exact g2
theorem rxkPW2_8 {S0 : Nat → Int → Int} {ws : List Int} {S : Nat → Int → Int} {part : Int} (hP : rxPPW2 S0 ws) (hin : bx_same rxL (bx_mdl rxC240.2.2.1) S0 S) (I0 : bx_Inv rxL S) (hinv : rxIPW2_8 S0 ws S part) (l8 : 0 ≤ part) (u8 : part ≤ 5) : rxPRY S [480] ∧ ∀ (S' : Nat → Int → Int), rxPSRY S [480] S' none → bx_Inv rxL S' → bx_same rxL (bx_mdl rxCRY.2.2.1) S S' → rxIPW2_9 S0 ws S' part ∧ rxmPW2_9 S0 ws S' part < rxmPW2_8 S0 ws S part := by
  obtain ⟨hI, hx⟩ := hinv
  have g_ := rxk240_8 hP hin I0 hI l8 u8
  exact ⟨g_.1, fun S' hq I1 hsm => ⟨⟨(g_.2 S' hq I1 hsm).1, hx⟩, (g_.2 S' hq I1 hsm).2⟩⟩
theorem rxsPW2_8 {X : (Nat → Int → Int) → Prop} {S0 : Nat → Int → Int} {ws : List Int} (hP : rxPPW2 S0 ws) : rx_obK X S0 rxC240.2.2.1 rxCRY.2.2.1 (rxIPW2 S0 ws) (rxmPW2 S0 ws) 8 9 rxzPW2_8 rxzPW2_9 [.inr (3, (0, 480))] none rxPRY rxPSRY := by
  intro S r hinv hXS I0 hin hs_ hf_
  have b_ := bx_bds_sat hs_
  have f_ := bx_fcl_ok hs_.1 hf_
  obtain ⟨⟨l8, u8⟩, -⟩ := b_
  have g := rxkPW2_8 hP hin I0 hinv l8 u8
  have ea : List.map (bx_num r) [.inr (3, (0, 480))] = [480] := by
    simp only [List.map_cons, List.map_nil, bx_xv_ok hs_.1]
    rfl
  rw [ea]
  refine ⟨g.1, fun S' w r' hPS hX' I1 hsm hr hw hs' => ?_⟩
  have hw : w = none := hPS.1
  subst hw
  have g2 := g.2 S' hPS I1 hsm
  show rxIPW2_9 S0 ws S' (r' 8) ∧ rxmPW2_9 S0 ws S' (r' 8) < _
  rw [hr 8 (by decide)]
  exact g2
theorem rxkPW2_10 {S0 : Nat → Int → Int} {ws : List Int} {S : Nat → Int → Int} {part : Int} (hP : rxPPW2 S0 ws) (hin : bx_same rxL (bx_mdl rxC240.2.2.1) S0 S) (I0 : bx_Inv rxL S) (hinv : rxIPW2_10 S0 ws S part) (l8 : 0 ≤ part) (u8 : part ≤ 5) : rxPET2 S [480] ∧ ∀ (S' : Nat → Int → Int), rxPSET2 S [480] S' none → bx_Inv rxL S' → bx_same rxL (bx_mdl rxCET2.2.2.1) S S' → rxIPW2_11 S0 ws S' part ∧ rxmPW2_11 S0 ws S' part < rxmPW2_10 S0 ws S part := by
  obtain ⟨hI, hx⟩ := hinv
  have g_ := rxk240_10 hP hin I0 hI l8 u8
  exact ⟨g_.1, fun S' hq I1 hsm => ⟨⟨(g_.2 S' hq.2.1 I1 hsm).1, ⟨hx.1, hx.2.1, hx.2.2, hq.2.2⟩⟩, (g_.2 S' hq.2.1 I1 hsm).2⟩⟩
theorem rxsPW2_10 {X : (Nat → Int → Int) → Prop} {S0 : Nat → Int → Int} {ws : List Int} (hP : rxPPW2 S0 ws) : rx_obK X S0 rxC240.2.2.1 rxCET2.2.2.1 (rxIPW2 S0 ws) (rxmPW2 S0 ws) 10 11 rxzPW2_10 rxzPW2_11 [.inr (3, (0, 480))] none rxPET2 rxPSET2 := by
  intro S r hinv hXS I0 hin hs_ hf_
  have b_ := bx_bds_sat hs_
  have f_ := bx_fcl_ok hs_.1 hf_
  obtain ⟨⟨l8, u8⟩, -⟩ := b_
  have g := rxkPW2_10 hP hin I0 hinv l8 u8
  have ea : List.map (bx_num r) [.inr (3, (0, 480))] = [480] := by
    simp only [List.map_cons, List.map_nil, bx_xv_ok hs_.1]
    rfl
  rw [ea]
  refine ⟨g.1, fun S' w r' hPS hX' I1 hsm hr hw hs' => ?_⟩
  have hw : w = none := hPS.1
  subst hw
  have g2 := g.2 S' hPS I1 hsm
  show rxIPW2_11 S0 ws S' (r' 8) ∧ rxmPW2_11 S0 ws S' (r' 8) < _
  rw [hr 8 (by decide)]
  exact g2
theorem rxkPW2_14 {S0 : Nat → Int → Int} {ws : List Int} {S : Nat → Int → Int} {part at_ c n a_ pt d6 m6 : Int} (hP : rxPPW2 S0 ws) (hin : bx_same rxL (bx_mdl rxC240.2.2.1) S0 S) (I0 : bx_Inv rxL S) (hinv : rxIPW2_14 S0 ws S part at_ c n a_ pt d6 m6) (l8 : 0 ≤ part) (u8 : part ≤ 5) (l9 : 0 ≤ at_) (u9 : at_ ≤ 110) (l10 : 0 ≤ c) (u10 : c ≤ 35) (l11 : 0 ≤ n) (u11 : n ≤ 431) (l12 : 0 ≤ a_) (u12 : a_ ≤ 110) (l13 : 0 ≤ pt) (u13 : pt ≤ 5) (l14 : 0 ≤ d6) (u14 : d6 ≤ 5) (l15 : 0 ≤ m6) (u15 : m6 ≤ 5) : rxPIP S [480, a_, pt, d6, m6] ∧ ∀ (S' : Nat → Int → Int) (so : Int), 0 ≤ so → so ≤ 1 → rxPSIP S [480, a_, pt, d6, m6] S' (some so) → bx_Inv rxL S' → bx_same rxL (bx_mdl rxCIP.2.2.1) S S' → rxIPW2_15 S0 ws S' part at_ c n a_ pt d6 m6 so ∧ rxmPW2_15 S0 ws S' part at_ c n a_ pt d6 m6 so < rxmPW2_14 S0 ws S part at_ c n a_ pt d6 m6 := by
  obtain ⟨hI, hx⟩ := hinv
  have g_ := rxk240_14 hP hin I0 hI l8 u8 l9 u9 l10 u10 l11 u11 l12 u12 l13 u13 l14 u14 l15 u15
  exact ⟨g_.1, fun S' so l_ u_ hq I1 hsm => ⟨⟨(g_.2 S' so l_ u_ hq I1 hsm).1, ⟨hx.1, hx.2.1, hx.2.2.1, ((hsm 480 8 (by decide) (by decide) (by decide +kernel))).trans hx.2.2.2⟩⟩, (g_.2 S' so l_ u_ hq I1 hsm).2⟩⟩
theorem rxsPW2_14 {X : (Nat → Int → Int) → Prop} {S0 : Nat → Int → Int} {ws : List Int} (hP : rxPPW2 S0 ws) : rx_obK X S0 rxC240.2.2.1 rxCIP.2.2.1 (rxIPW2 S0 ws) (rxmPW2 S0 ws) 14 15 rxzPW2_14 rxzPW2_15 [.inr (3, (0, 480)), .inr (0, (12, 0)), .inr (0, (13, 0)), .inr (0, (14, 0)), .inr (0, (15, 0))] (some 16) rxPIP rxPSIP := by
  intro S r hinv hXS I0 hin hs_ hf_
  have b_ := bx_bds_sat hs_
  have f_ := bx_fcl_ok hs_.1 hf_
  obtain ⟨⟨l8, u8⟩, ⟨l9, u9⟩, ⟨l10, u10⟩, ⟨l11, u11⟩, ⟨l12, u12⟩, ⟨l13, u13⟩, ⟨l14, u14⟩, ⟨l15, u15⟩, -⟩ := b_
  have g := rxkPW2_14 hP hin I0 hinv l8 u8 l9 u9 l10 u10 l11 u11 l12 u12 l13 u13 l14 u14 l15 u15
  have ea : List.map (bx_num r) [.inr (3, (0, 480)), .inr (0, (12, 0)), .inr (0, (13, 0)), .inr (0, (14, 0)), .inr (0, (15, 0))] = [480, (r 12), (r 13), (r 14), (r 15)] := by
    simp only [List.map_cons, List.map_nil, bx_xv_ok hs_.1]
    rfl
  rw [ea]
  refine ⟨g.1, fun S' w r' hPS hX' I1 hsm hr hw hs' => ?_⟩
  have hw := hw _ rfl
  subst hw
  have b' := hs'.2.2 16 _ _ rfl
  have g2 := g.2 S' (r' 16) b'.1 b'.2 hPS I1 hsm
  show rxIPW2_15 S0 ws S' (r' 8) (r' 9) (r' 10) (r' 11) (r' 12) (r' 13) (r' 14) (r' 15) (r' 16) ∧ rxmPW2_15 S0 ws S' (r' 8) (r' 9) (r' 10) (r' 11) (r' 12) (r' 13) (r' 14) (r' 15) (r' 16) < _
  rw [hr 8 (by decide), hr 9 (by decide), hr 10 (by decide), hr 11 (by decide), hr 12 (by decide), hr 13 (by decide), hr 14 (by decide), hr 15 (by decide)]
  exact g2
theorem rxcPW2_0_0 {S0 : Nat → Int → Int} {ws : List Int} {S : Nat → Int → Int} {part x9 : Int} (hP : rxPPW2 S0 ws) (hin : bx_same rxL (bx_mdl rxC240.2.2.1) S0 S) (I0 : bx_Inv rxL S) (hinv : rxIPW2_0 S0 ws S part) (l8 : 0 ≤ part) (u8 : part ≤ 5) (l9 : 1 ≤ x9) (u9 : x9 ≤ 6) (f0 : part ≤ x9 + (-1)) (e0 : (bx_up S 480 0 0) 482 0 = x9) : (True) ∧ (True) ∧ rxIPW2_1 S0 ws (bx_up S 480 0 0) part ∧ rxmPW2_1 S0 ws (bx_up S 480 0 0) part < rxmPW2_0 S0 ws S part := by
  obtain ⟨hI, hx⟩ := hinv
  obtain ⟨a_, b_, c_, d_⟩ := rxc240_0_0 hP hin I0 hI l8 u8 l9 u9 f0 e0
  exact ⟨a_, b_, ⟨c_, by
    obtain ⟨rfl, hw⟩ := id hI
    have e0 := (show _ = S 482 0 from (bx_up_ne (by omega))).symm.trans e0
    exact ⟨hw, by omega, by omega⟩⟩, d_⟩
theorem rxgPW2_0_0 {X : (Nat → Int → Int) → Prop} {S0 : Nat → Int → Int} {ws : List Int} (hP : rxPPW2 S0 ws) : bx_obC rxL X S0 rxC240.2.2.1 (rxIPW2 S0 ws) (rxmPW2 S0 ws) 0 rxzPW2_0 rxoPW2_0_0 := by
  intro S S' r r' hinv hX hin hsm_ hseg
  obtain ⟨I0, I1, h0_, hr_, b_, f_, d_⟩ := bx_cl (evs := [(0, (0, 482), (0, 0), .inr (0, (9, 0))), (1, (0, 480), (0, 0), .inr (0, (0, 0)))]) (fvs := [(1, (8, 0), (9, (-1)), (0, 0))]) hseg (by decide +kernel) (by decide +kernel)
  have hinv : rxIPW2_0 S0 ws S (r 8) := hinv
  rw [← hr_ 8 (by decide)] at hinv
  obtain ⟨⟨l8, u8⟩, ⟨l9, u9⟩, -⟩ := b_
  obtain ⟨f0, -⟩ := f_
  obtain ⟨e0, ⟨T1, w_, w1⟩⟩ := d_
  subst w1
  subst w_
  have g := rxcPW2_0_0 hP hin I0 hinv l8 u8 l9 u9 f0 e0
  refine ⟨bx_narP_ok (l := []) g.1, bx_nfP_ok h0_ (fvs := []) (by decide +kernel) g.2.1, ?_, ?_⟩
  · show rxIPW2_1 S0 ws (bx_up T1 480 (0) (0)) (bx_val [(0, 0), (0, 0), (0, 0), (0, 0), (0, 0), (0, 0), (0, 0), (0, 0), (8, 0)] r' 8)
    rw [bx_val_x (n := 8) (e := (8, 0)) h0_ rfl]
    exact g.2.2.1
  · show rxmPW2_1 S0 ws (bx_up T1 480 (0) (0)) (bx_val [(0, 0), (0, 0), (0, 0), (0, 0), (0, 0), (0, 0), (0, 0), (0, 0), (8, 0)] r' 8) < rxmPW2_0 S0 ws T1 (r 8)
    rw [bx_val_x (n := 8) (e := (8, 0)) h0_ rfl, ← hr_ 8 (by decide)]
    exact g.2.2.2
theorem rxdPW2_0_0 {S0 : Nat → Int → Int} {ws : List Int} {S : Nat → Int → Int} {part x9 x10 x11 : Int} (hP : rxPPW2 S0 ws) (hin : bx_same rxL (bx_mdl rxC240.2.2.1) S0 S) (hin2 : bx_same rxL (bx_mdl rxC240.2.2.1) S (bx_up (bx_up (bx_up S 480 0 0) 480 1 ((-2))) 481 2 x11)) (I0 : bx_Inv rxL S) (I1 : bx_Inv rxL (bx_up (bx_up (bx_up S 480 0 0) 480 1 ((-2))) 481 2 x11)) (hinv : rxIPW2_0 S0 ws S part) (l8 : 0 ≤ part) (u8 : part ≤ 2147483647) (l9 : 0 ≤ x9) (u9 : x9 ≤ 6) (l10 : (-2147483648) ≤ x10) (u10 : x10 ≤ 2147483647) (l11 : (-2147483648) ≤ x11) (u11 : x11 ≤ 2147483647) (f0 : x9 + (-1) < part) (e3 : (bx_up S 480 0 0) 482 0 = x9) (e1 : (bx_up (bx_up S 480 0 0) 480 1 ((-2))) 481 2 = x10) : (True) ∧ rxPSPW2 S0 ws (bx_up (bx_up (bx_up S 480 0 0) 480 1 ((-2))) 481 2 x11) (some ((-2))) := by
  obtain ⟨hI, hx⟩ := hinv
  obtain ⟨a_, c_⟩ := rxd240_0_0 hP hin hin2 I0 I1 hI l8 u8 l9 u9 l10 u10 l11 u11 f0 e3 e1
  exact ⟨a_, c_, by
    obtain ⟨rfl, hw⟩ := id hI
    have e3 := (show _ = S 482 0 from (bx_up_ne (by omega))).symm.trans e3
    have e1 := (show _ = S 481 2 from (bx_up_ne (by omega)).trans ((bx_up_ne (by omega)))).symm.trans e1
    exact ⟨part, hw, Or.inl ⟨by omega, True.intro, (bx_up_ne (by omega)).trans ((bx_up_ne (by omega)).trans ((bx_up_ne (by omega))))⟩⟩⟩
theorem rxfPW2_0_0 {X : (Nat → Int → Int) → Prop} {S0 : Nat → Int → Int} {ws : List Int} (hP : rxPPW2 S0 ws) : bx_obE rxL X S0 rxC240.2.2.1 (rxIPW2 S0 ws) (rxPSPW2 S0 ws) 0 rxzPW2_0 rxePW2_0_0 := by
  intro S S' r r' hinv hX hin hsm_ hseg
  obtain ⟨I0, I1, h0_, hr_, b_, f_, d_⟩ := bx_cl (evs := [(1, (0, 481), (0, 2), .inr (0, (11, 0))), (0, (0, 481), (0, 2), .inr (0, (10, 0))), (1, (0, 480), (0, 1), .inr (0, (0, (-2)))), (0, (0, 482), (0, 0), .inr (0, (9, 0))), (1, (0, 480), (0, 0), .inr (0, (0, 0)))]) (fvs := [(0, (9, (-1)), (8, 0), (0, 0))]) hseg (by decide +kernel) (by decide +kernel)
  have hinv : rxIPW2_0 S0 ws S (r 8) := hinv
  rw [← hr_ 8 (by decide)] at hinv
  obtain ⟨⟨l8, u8⟩, ⟨l9, u9⟩, ⟨l10, u10⟩, ⟨l11, u11⟩, -⟩ := b_
  obtain ⟨f0, -⟩ := f_
  obtain ⟨T0, ⟨e1, ⟨T2, ⟨e3, ⟨T4, w_, w4⟩⟩, w2⟩⟩, w0⟩ := d_
  subst w0
  subst w2
  subst w4
  subst w_
  have g := rxdPW2_0_0 hP hin hsm_ I0 I1 hinv l8 u8 l9 u9 l10 u10 l11 u11 f0 e3 e1
  refine ⟨bx_narP_ok (l := []) g.1, ?_⟩
  show rxPSPW2 S0 ws (bx_up (bx_up (bx_up T4 480 (0) (0)) 480 (1) ((-2))) 481 (2) (r' 11)) (some (bx_num r' (.inr (0, (0, (-2))))))
  rw [bx_xv_ok h0_]
  exact g.2
theorem rxdPW2_0_1 {S0 : Nat → Int → Int} {ws : List Int} {S : Nat → Int → Int} {part x9 x10 x11 : Int} (hP : rxPPW2 S0 ws) (hin : bx_same rxL (bx_mdl rxC240.2.2.1) S0 S) (hin2 : bx_same rxL (bx_mdl rxC240.2.2.1) S (bx_up (bx_up (bx_up S 480 0 0) 480 1 ((-2))) 481 2 x11)) (I0 : bx_Inv rxL S) (I1 : bx_Inv rxL (bx_up (bx_up (bx_up S 480 0 0) 480 1 ((-2))) 481 2 x11)) (hinv : rxIPW2_0 S0 ws S part) (l8 : (-2147483648) ≤ part) (u8 : part ≤ (-1)) (l9 : 0 ≤ x9) (u9 : x9 ≤ 6) (l10 : (-2147483648) ≤ x10) (u10 : x10 ≤ 2147483647) (l11 : (-2147483648) ≤ x11) (u11 : x11 ≤ 2147483647) (e3 : (bx_up S 480 0 0) 482 0 = x9) (e1 : (bx_up (bx_up S 480 0 0) 480 1 ((-2))) 481 2 = x10) : (True) ∧ rxPSPW2 S0 ws (bx_up (bx_up (bx_up S 480 0 0) 480 1 ((-2))) 481 2 x11) (some ((-2))) := by
  obtain ⟨hI, hx⟩ := hinv
  obtain ⟨a_, c_⟩ := rxd240_0_1 hP hin hin2 I0 I1 hI l8 u8 l9 u9 l10 u10 l11 u11 e3 e1
  exact ⟨a_, c_, by
    obtain ⟨rfl, hw⟩ := id hI
    have e3 := (show _ = S 482 0 from (bx_up_ne (by omega))).symm.trans e3
    have e1 := (show _ = S 481 2 from (bx_up_ne (by omega)).trans ((bx_up_ne (by omega)))).symm.trans e1
    exact ⟨part, hw, Or.inl ⟨by omega, True.intro, (bx_up_ne (by omega)).trans ((bx_up_ne (by omega)).trans ((bx_up_ne (by omega))))⟩⟩⟩
theorem rxfPW2_0_1 {X : (Nat → Int → Int) → Prop} {S0 : Nat → Int → Int} {ws : List Int} (hP : rxPPW2 S0 ws) : bx_obE rxL X S0 rxC240.2.2.1 (rxIPW2 S0 ws) (rxPSPW2 S0 ws) 0 rxzPW2_0 rxePW2_0_1 := by
  intro S S' r r' hinv hX hin hsm_ hseg
  obtain ⟨I0, I1, h0_, hr_, b_, f_, d_⟩ := bx_cl (evs := [(1, (0, 481), (0, 2), .inr (0, (11, 0))), (0, (0, 481), (0, 2), .inr (0, (10, 0))), (1, (0, 480), (0, 1), .inr (0, (0, (-2)))), (0, (0, 482), (0, 0), .inr (0, (9, 0))), (1, (0, 480), (0, 0), .inr (0, (0, 0)))]) (fvs := []) hseg (by decide +kernel) (by decide +kernel)
  have hinv : rxIPW2_0 S0 ws S (r 8) := hinv
  rw [← hr_ 8 (by decide)] at hinv
  obtain ⟨⟨l8, u8⟩, ⟨l9, u9⟩, ⟨l10, u10⟩, ⟨l11, u11⟩, -⟩ := b_
  obtain ⟨T0, ⟨e1, ⟨T2, ⟨e3, ⟨T4, w_, w4⟩⟩, w2⟩⟩, w0⟩ := d_
  subst w0
  subst w2
  subst w4
  subst w_
  have g := rxdPW2_0_1 hP hin hsm_ I0 I1 hinv l8 u8 l9 u9 l10 u10 l11 u11 e3 e1
  refine ⟨bx_narP_ok (l := []) g.1, ?_⟩
  show rxPSPW2 S0 ws (bx_up (bx_up (bx_up T4 480 (0) (0)) 480 (1) ((-2))) 481 (2) (r' 11)) (some (bx_num r' (.inr (0, (0, (-2))))))
  rw [bx_xv_ok h0_]
  exact g.2
theorem rxcPW2_2_0 {S0 : Nat → Int → Int} {ws : List Int} {S : Nat → Int → Int} {part : Int} (hP : rxPPW2 S0 ws) (hin : bx_same rxL (bx_mdl rxC240.2.2.1) S0 S) (I0 : bx_Inv rxL S) (hinv : rxIPW2_2 S0 ws S part) (l8 : 0 ≤ part) (u8 : part ≤ 5) : (True) ∧ (True) ∧ rxIPW2_3 S0 ws S part ∧ rxmPW2_3 S0 ws S part < rxmPW2_2 S0 ws S part := by
  obtain ⟨hI, hx⟩ := hinv
  obtain ⟨a_, b_, c_, d_⟩ := rxc240_2_0 hP hin I0 hI l8 u8
  exact ⟨a_, b_, ⟨c_, hx⟩, d_⟩
theorem rxgPW2_2_0 {X : (Nat → Int → Int) → Prop} {S0 : Nat → Int → Int} {ws : List Int} (hP : rxPPW2 S0 ws) : bx_obC rxL X S0 rxC240.2.2.1 (rxIPW2 S0 ws) (rxmPW2 S0 ws) 2 rxzPW2_2 rxoPW2_2_0 := by
  intro S S' r r' hinv hX hin hsm_ hseg
  obtain ⟨I0, I1, h0_, hr_, b_, f_, d_⟩ := bx_cl (evs := []) (fvs := []) hseg (by decide +kernel) (by decide +kernel)
  have hinv : rxIPW2_2 S0 ws S (r 8) := hinv
  rw [← hr_ 8 (by decide)] at hinv
  obtain ⟨⟨l8, u8⟩, -⟩ := b_
  have w_ := d_
  subst w_
  have g := rxcPW2_2_0 hP hin I0 hinv l8 u8
  refine ⟨bx_narP_ok (l := []) g.1, bx_nfP_ok h0_ (fvs := []) (by decide +kernel) g.2.1, ?_, ?_⟩
  · show rxIPW2_3 S0 ws S' (bx_val [(0, 0), (0, 0), (0, 0), (0, 0), (0, 0), (0, 0), (0, 0), (0, 0), (8, 0)] r' 8)
    rw [bx_val_x (n := 8) (e := (8, 0)) h0_ rfl]
    exact g.2.2.1
  · show rxmPW2_3 S0 ws S' (bx_val [(0, 0), (0, 0), (0, 0), (0, 0), (0, 0), (0, 0), (0, 0), (0, 0), (8, 0)] r' 8) < rxmPW2_2 S0 ws S' (r 8)
    rw [bx_val_x (n := 8) (e := (8, 0)) h0_ rfl, ← hr_ 8 (by decide)]
    exact g.2.2.2
theorem rxcPW2_4_0 {S0 : Nat → Int → Int} {ws : List Int} {S : Nat → Int → Int} {part x9 x10 : Int} (hP : rxPPW2 S0 ws) (hin : bx_same rxL (bx_mdl rxC240.2.2.1) S0 S) (I0 : bx_Inv rxL S) (hinv : rxIPW2_4 S0 ws S part) (l8 : 0 ≤ part) (u8 : part ≤ 5) (l9 : 0 ≤ x9) (u9 : x9 ≤ 0) (l10 : 0 ≤ x10) (u10 : x10 ≤ 2) (f0 : x10 ≠ 3) (e1 : S 480 14 = x9) (e0 : S 480 11 = x10) : (True) ∧ (True) ∧ rxIPW2_10 S0 ws S part ∧ rxmPW2_10 S0 ws S part < rxmPW2_4 S0 ws S part := by
  obtain ⟨hI, hx⟩ := hinv
  obtain ⟨a_, b_, c_, d_⟩ := rxc240_4_0 hP hin I0 hI l8 u8 l9 u9 l10 u10 f0 e1 e0
  exact ⟨a_, b_, ⟨c_, hx⟩, d_⟩
theorem rxgPW2_4_0 {X : (Nat → Int → Int) → Prop} {S0 : Nat → Int → Int} {ws : List Int} (hP : rxPPW2 S0 ws) : bx_obC rxL X S0 rxC240.2.2.1 (rxIPW2 S0 ws) (rxmPW2 S0 ws) 4 rxzPW2_4 rxoPW2_4_0 := by
  intro S S' r r' hinv hX hin hsm_ hseg
  obtain ⟨I0, I1, h0_, hr_, b_, f_, d_⟩ := bx_cl (evs := [(0, (0, 480), (0, 11), .inr (0, (10, 0))), (0, (0, 480), (0, 14), .inr (0, (9, 0)))]) (fvs := [(3, (10, 0), (0, 3), (0, 0))]) hseg (by decide +kernel) (by decide +kernel)
  have hinv : rxIPW2_4 S0 ws S (r 8) := hinv
  rw [← hr_ 8 (by decide)] at hinv
  obtain ⟨⟨l8, u8⟩, ⟨l9, u9⟩, ⟨l10, u10⟩, -⟩ := b_
  obtain ⟨f0, -⟩ := f_
  obtain ⟨e0, ⟨e1, w_⟩⟩ := d_
  subst w_
  have g := rxcPW2_4_0 hP hin I0 hinv l8 u8 l9 u9 l10 u10 f0 e1 e0
  refine ⟨bx_narP_ok (l := []) g.1, bx_nfP_ok h0_ (fvs := []) (by decide +kernel) g.2.1, ?_, ?_⟩
  · show rxIPW2_10 S0 ws S' (bx_val [(0, 0), (0, 0), (0, 0), (0, 0), (0, 0), (0, 0), (0, 0), (0, 0), (8, 0)] r' 8)
    rw [bx_val_x (n := 8) (e := (8, 0)) h0_ rfl]
    exact g.2.2.1
  · show rxmPW2_10 S0 ws S' (bx_val [(0, 0), (0, 0), (0, 0), (0, 0), (0, 0), (0, 0), (0, 0), (0, 0), (8, 0)] r' 8) < rxmPW2_4 S0 ws S' (r 8)
    rw [bx_val_x (n := 8) (e := (8, 0)) h0_ rfl, ← hr_ 8 (by decide)]
    exact g.2.2.2
theorem rxcPW2_4_1 {S0 : Nat → Int → Int} {ws : List Int} {S : Nat → Int → Int} {part x9 x10 x11 : Int} (hP : rxPPW2 S0 ws) (hin : bx_same rxL (bx_mdl rxC240.2.2.1) S0 S) (I0 : bx_Inv rxL S) (hinv : rxIPW2_4 S0 ws S part) (l8 : 0 ≤ part) (u8 : part ≤ 5) (l9 : 0 ≤ x9) (u9 : x9 ≤ 0) (l10 : 3 ≤ x10) (u10 : x10 ≤ 3) (l11 : (-9223372036854775808) ≤ x11) (u11 : x11 ≤ 9223372036854775807) (f0 : x11 ≠ 59) (e2 : S 480 14 = x9) (e1 : S 480 11 = x10) (e0 : S 480 12 = x11) : (True) ∧ (True) ∧ rxIPW2_10 S0 ws S part ∧ rxmPW2_10 S0 ws S part < rxmPW2_4 S0 ws S part := by
  obtain ⟨hI, hx⟩ := hinv
  obtain ⟨a_, b_, c_, d_⟩ := rxc240_4_1 hP hin I0 hI l8 u8 l9 u9 l10 u10 l11 u11 f0 e2 e1 e0
  exact ⟨a_, b_, ⟨c_, hx⟩, d_⟩
theorem rxgPW2_4_1 {X : (Nat → Int → Int) → Prop} {S0 : Nat → Int → Int} {ws : List Int} (hP : rxPPW2 S0 ws) : bx_obC rxL X S0 rxC240.2.2.1 (rxIPW2 S0 ws) (rxmPW2 S0 ws) 4 rxzPW2_4 rxoPW2_4_1 := by
  intro S S' r r' hinv hX hin hsm_ hseg
  obtain ⟨I0, I1, h0_, hr_, b_, f_, d_⟩ := bx_cl (evs := [(0, (0, 480), (0, 12), .inr (1, (11, 0))), (0, (0, 480), (0, 11), .inr (0, (10, 0))), (0, (0, 480), (0, 14), .inr (0, (9, 0)))]) (fvs := [(3, (11, 0), (0, 59), (0, 0))]) hseg (by decide +kernel) (by decide +kernel)
  have hinv : rxIPW2_4 S0 ws S (r 8) := hinv
  rw [← hr_ 8 (by decide)] at hinv
  obtain ⟨⟨l8, u8⟩, ⟨l9, u9⟩, ⟨l10, u10⟩, ⟨l11, u11⟩, -⟩ := b_
  obtain ⟨f0, -⟩ := f_
  obtain ⟨e0, ⟨e1, ⟨e2, w_⟩⟩⟩ := d_
  subst w_
  have g := rxcPW2_4_1 hP hin I0 hinv l8 u8 l9 u9 l10 u10 l11 u11 f0 e2 e1 e0
  refine ⟨bx_narP_ok (l := []) g.1, bx_nfP_ok h0_ (fvs := []) (by decide +kernel) g.2.1, ?_, ?_⟩
  · show rxIPW2_10 S0 ws S' (bx_val [(0, 0), (0, 0), (0, 0), (0, 0), (0, 0), (0, 0), (0, 0), (0, 0), (8, 0)] r' 8)
    rw [bx_val_x (n := 8) (e := (8, 0)) h0_ rfl]
    exact g.2.2.1
  · show rxmPW2_10 S0 ws S' (bx_val [(0, 0), (0, 0), (0, 0), (0, 0), (0, 0), (0, 0), (0, 0), (0, 0), (8, 0)] r' 8) < rxmPW2_4 S0 ws S' (r 8)
    rw [bx_val_x (n := 8) (e := (8, 0)) h0_ rfl, ← hr_ 8 (by decide)]
    exact g.2.2.2
theorem rxcPW2_4_2 {S0 : Nat → Int → Int} {ws : List Int} {S : Nat → Int → Int} {part x9 x10 x11 : Int} (hP : rxPPW2 S0 ws) (hin : bx_same rxL (bx_mdl rxC240.2.2.1) S0 S) (I0 : bx_Inv rxL S) (hinv : rxIPW2_4 S0 ws S part) (l8 : 0 ≤ part) (u8 : part ≤ 5) (l9 : 0 ≤ x9) (u9 : x9 ≤ 0) (l10 : 3 ≤ x10) (u10 : x10 ≤ 3) (l11 : 59 ≤ x11) (u11 : x11 ≤ 59) (e2 : S 480 14 = x9) (e1 : S 480 11 = x10) (e0 : S 480 12 = x11) : (True) ∧ (True) ∧ rxIPW2_6 S0 ws S part ∧ rxmPW2_6 S0 ws S part < rxmPW2_4 S0 ws S part := by
  obtain ⟨hI, hx⟩ := hinv
  obtain ⟨a_, b_, c_, d_⟩ := rxc240_4_2 hP hin I0 hI l8 u8 l9 u9 l10 u10 l11 u11 e2 e1 e0
  exact ⟨a_, b_, ⟨c_, hx⟩, d_⟩
theorem rxgPW2_4_2 {X : (Nat → Int → Int) → Prop} {S0 : Nat → Int → Int} {ws : List Int} (hP : rxPPW2 S0 ws) : bx_obC rxL X S0 rxC240.2.2.1 (rxIPW2 S0 ws) (rxmPW2 S0 ws) 4 rxzPW2_4 rxoPW2_4_2 := by
  intro S S' r r' hinv hX hin hsm_ hseg
  obtain ⟨I0, I1, h0_, hr_, b_, f_, d_⟩ := bx_cl (evs := [(0, (0, 480), (0, 12), .inr (1, (11, 0))), (0, (0, 480), (0, 11), .inr (0, (10, 0))), (0, (0, 480), (0, 14), .inr (0, (9, 0)))]) (fvs := []) hseg (by decide +kernel) (by decide +kernel)
  have hinv : rxIPW2_4 S0 ws S (r 8) := hinv
  rw [← hr_ 8 (by decide)] at hinv
  obtain ⟨⟨l8, u8⟩, ⟨l9, u9⟩, ⟨l10, u10⟩, ⟨l11, u11⟩, -⟩ := b_
  obtain ⟨e0, ⟨e1, ⟨e2, w_⟩⟩⟩ := d_
  subst w_
  have g := rxcPW2_4_2 hP hin I0 hinv l8 u8 l9 u9 l10 u10 l11 u11 e2 e1 e0
  refine ⟨bx_narP_ok (l := []) g.1, bx_nfP_ok h0_ (fvs := []) (by decide +kernel) g.2.1, ?_, ?_⟩
  · show rxIPW2_6 S0 ws S' (bx_val [(0, 0), (0, 0), (0, 0), (0, 0), (0, 0), (0, 0), (0, 0), (0, 0), (8, 0)] r' 8)
    rw [bx_val_x (n := 8) (e := (8, 0)) h0_ rfl]
    exact g.2.2.1
  · show rxmPW2_6 S0 ws S' (bx_val [(0, 0), (0, 0), (0, 0), (0, 0), (0, 0), (0, 0), (0, 0), (0, 0), (8, 0)] r' 8) < rxmPW2_4 S0 ws S' (r 8)
    rw [bx_val_x (n := 8) (e := (8, 0)) h0_ rfl, ← hr_ 8 (by decide)]
    exact g.2.2.2
theorem rxcPW2_4_3 {S0 : Nat → Int → Int} {ws : List Int} {S : Nat → Int → Int} {part x9 : Int} (hP : rxPPW2 S0 ws) (hin : bx_same rxL (bx_mdl rxC240.2.2.1) S0 S) (I0 : bx_Inv rxL S) (hinv : rxIPW2_4 S0 ws S part) (l8 : 0 ≤ part) (u8 : part ≤ 5) (l9 : 1 ≤ x9) (u9 : x9 ≤ 1) (f0 : x9 ≠ 0) (e0 : S 480 14 = x9) : (True) ∧ (True) ∧ rxIPW2_10 S0 ws S part ∧ rxmPW2_10 S0 ws S part < rxmPW2_4 S0 ws S part := by
  obtain ⟨hI, hx⟩ := hinv
  obtain ⟨a_, b_, c_, d_⟩ := rxc240_4_3 hP hin I0 hI l8 u8 l9 u9 f0 e0
  exact ⟨a_, b_, ⟨c_, hx⟩, d_⟩
theorem rxgPW2_4_3 {X : (Nat → Int → Int) → Prop} {S0 : Nat → Int → Int} {ws : List Int} (hP : rxPPW2 S0 ws) : bx_obC rxL X S0 rxC240.2.2.1 (rxIPW2 S0 ws) (rxmPW2 S0 ws) 4 rxzPW2_4 rxoPW2_4_3 := by
  intro S S' r r' hinv hX hin hsm_ hseg
  obtain ⟨I0, I1, h0_, hr_, b_, f_, d_⟩ := bx_cl (evs := [(0, (0, 480), (0, 14), .inr (0, (9, 0)))]) (fvs := [(3, (9, 0), (0, 0), (0, 0))]) hseg (by decide +kernel) (by decide +kernel)
  have hinv : rxIPW2_4 S0 ws S (r 8) := hinv
  rw [← hr_ 8 (by decide)] at hinv
  obtain ⟨⟨l8, u8⟩, ⟨l9, u9⟩, -⟩ := b_
  obtain ⟨f0, -⟩ := f_
  obtain ⟨e0, w_⟩ := d_
  subst w_
  have g := rxcPW2_4_3 hP hin I0 hinv l8 u8 l9 u9 f0 e0
  refine ⟨bx_narP_ok (l := []) g.1, bx_nfP_ok h0_ (fvs := []) (by decide +kernel) g.2.1, ?_, ?_⟩
  · show rxIPW2_10 S0 ws S' (bx_val [(0, 0), (0, 0), (0, 0), (0, 0), (0, 0), (0, 0), (0, 0), (0, 0), (8, 0)] r' 8)
    rw [bx_val_x (n := 8) (e := (8, 0)) h0_ rfl]
    exact g.2.2.1
  · show rxmPW2_10 S0 ws S' (bx_val [(0, 0), (0, 0), (0, 0), (0, 0), (0, 0), (0, 0), (0, 0), (0, 0), (8, 0)] r' 8) < rxmPW2_4 S0 ws S' (r 8)
    rw [bx_val_x (n := 8) (e := (8, 0)) h0_ rfl, ← hr_ 8 (by decide)]
    exact g.2.2.2
theorem rxcPW2_5_0 {S0 : Nat → Int → Int} {ws : List Int} {S : Nat → Int → Int} {part x9 x10 : Int} (hP : rxPPW2 S0 ws) (hin : bx_same rxL (bx_mdl rxC240.2.2.1) S0 S) (I0 : bx_Inv rxL S) (hinv : rxIPW2_5 S0 ws S part) (l8 : 0 ≤ part) (u8 : part ≤ 5) (l9 : 0 ≤ x9) (u9 : x9 ≤ 0) (l10 : 0 ≤ x10) (u10 : x10 ≤ 2) (f0 : x10 ≠ 3) (e1 : S 480 14 = x9) (e0 : S 480 11 = x10) : (True) ∧ (True) ∧ rxIPW2_10 S0 ws S part ∧ rxmPW2_10 S0 ws S part < rxmPW2_5 S0 ws S part := by
  obtain ⟨hI, hx⟩ := hinv
  obtain ⟨a_, b_, c_, d_⟩ := rxc240_5_0 hP hin I0 hI l8 u8 l9 u9 l10 u10 f0 e1 e0
  exact ⟨a_, b_, ⟨c_, hx⟩, d_⟩
theorem rxgPW2_5_0 {X : (Nat → Int → Int) → Prop} {S0 : Nat → Int → Int} {ws : List Int} (hP : rxPPW2 S0 ws) : bx_obC rxL X S0 rxC240.2.2.1 (rxIPW2 S0 ws) (rxmPW2 S0 ws) 5 rxzPW2_5 rxoPW2_5_0 := by
  intro S S' r r' hinv hX hin hsm_ hseg
  obtain ⟨I0, I1, h0_, hr_, b_, f_, d_⟩ := bx_cl (evs := [(0, (0, 480), (0, 11), .inr (0, (10, 0))), (0, (0, 480), (0, 14), .inr (0, (9, 0)))]) (fvs := [(3, (10, 0), (0, 3), (0, 0))]) hseg (by decide +kernel) (by decide +kernel)
  have hinv : rxIPW2_5 S0 ws S (r 8) := hinv
  rw [← hr_ 8 (by decide)] at hinv
  obtain ⟨⟨l8, u8⟩, ⟨l9, u9⟩, ⟨l10, u10⟩, -⟩ := b_
  obtain ⟨f0, -⟩ := f_
  obtain ⟨e0, ⟨e1, w_⟩⟩ := d_
  subst w_
  have g := rxcPW2_5_0 hP hin I0 hinv l8 u8 l9 u9 l10 u10 f0 e1 e0
  refine ⟨bx_narP_ok (l := []) g.1, bx_nfP_ok h0_ (fvs := []) (by decide +kernel) g.2.1, ?_, ?_⟩
  · show rxIPW2_10 S0 ws S' (bx_val [(0, 0), (0, 0), (0, 0), (0, 0), (0, 0), (0, 0), (0, 0), (0, 0), (8, 0)] r' 8)
    rw [bx_val_x (n := 8) (e := (8, 0)) h0_ rfl]
    exact g.2.2.1
  · show rxmPW2_10 S0 ws S' (bx_val [(0, 0), (0, 0), (0, 0), (0, 0), (0, 0), (0, 0), (0, 0), (0, 0), (8, 0)] r' 8) < rxmPW2_5 S0 ws S' (r 8)
    rw [bx_val_x (n := 8) (e := (8, 0)) h0_ rfl, ← hr_ 8 (by decide)]
    exact g.2.2.2
theorem rxcPW2_5_1 {S0 : Nat → Int → Int} {ws : List Int} {S : Nat → Int → Int} {part x9 x10 x11 : Int} (hP : rxPPW2 S0 ws) (hin : bx_same rxL (bx_mdl rxC240.2.2.1) S0 S) (I0 : bx_Inv rxL S) (hinv : rxIPW2_5 S0 ws S part) (l8 : 0 ≤ part) (u8 : part ≤ 5) (l9 : 0 ≤ x9) (u9 : x9 ≤ 0) (l10 : 3 ≤ x10) (u10 : x10 ≤ 3) (l11 : (-9223372036854775808) ≤ x11) (u11 : x11 ≤ 9223372036854775807) (f0 : x11 ≠ 59) (e2 : S 480 14 = x9) (e1 : S 480 11 = x10) (e0 : S 480 12 = x11) : (True) ∧ (True) ∧ rxIPW2_10 S0 ws S part ∧ rxmPW2_10 S0 ws S part < rxmPW2_5 S0 ws S part := by
  obtain ⟨hI, hx⟩ := hinv
  obtain ⟨a_, b_, c_, d_⟩ := rxc240_5_1 hP hin I0 hI l8 u8 l9 u9 l10 u10 l11 u11 f0 e2 e1 e0
  exact ⟨a_, b_, ⟨c_, hx⟩, d_⟩
theorem rxgPW2_5_1 {X : (Nat → Int → Int) → Prop} {S0 : Nat → Int → Int} {ws : List Int} (hP : rxPPW2 S0 ws) : bx_obC rxL X S0 rxC240.2.2.1 (rxIPW2 S0 ws) (rxmPW2 S0 ws) 5 rxzPW2_5 rxoPW2_5_1 := by
  intro S S' r r' hinv hX hin hsm_ hseg
  obtain ⟨I0, I1, h0_, hr_, b_, f_, d_⟩ := bx_cl (evs := [(0, (0, 480), (0, 12), .inr (1, (11, 0))), (0, (0, 480), (0, 11), .inr (0, (10, 0))), (0, (0, 480), (0, 14), .inr (0, (9, 0)))]) (fvs := [(3, (11, 0), (0, 59), (0, 0))]) hseg (by decide +kernel) (by decide +kernel)
  have hinv : rxIPW2_5 S0 ws S (r 8) := hinv
  rw [← hr_ 8 (by decide)] at hinv
  obtain ⟨⟨l8, u8⟩, ⟨l9, u9⟩, ⟨l10, u10⟩, ⟨l11, u11⟩, -⟩ := b_
  obtain ⟨f0, -⟩ := f_
  obtain ⟨e0, ⟨e1, ⟨e2, w_⟩⟩⟩ := d_
  subst w_
  have g := rxcPW2_5_1 hP hin I0 hinv l8 u8 l9 u9 l10 u10 l11 u11 f0 e2 e1 e0
  refine ⟨bx_narP_ok (l := []) g.1, bx_nfP_ok h0_ (fvs := []) (by decide +kernel) g.2.1, ?_, ?_⟩
  · show rxIPW2_10 S0 ws S' (bx_val [(0, 0), (0, 0), (0, 0), (0, 0), (0, 0), (0, 0), (0, 0), (0, 0), (8, 0)] r' 8)
    rw [bx_val_x (n := 8) (e := (8, 0)) h0_ rfl]
    exact g.2.2.1
  · show rxmPW2_10 S0 ws S' (bx_val [(0, 0), (0, 0), (0, 0), (0, 0), (0, 0), (0, 0), (0, 0), (0, 0), (8, 0)] r' 8) < rxmPW2_5 S0 ws S' (r 8)
    rw [bx_val_x (n := 8) (e := (8, 0)) h0_ rfl, ← hr_ 8 (by decide)]
    exact g.2.2.2
theorem rxcPW2_5_2 {S0 : Nat → Int → Int} {ws : List Int} {S : Nat → Int → Int} {part x9 x10 x11 : Int} (hP : rxPPW2 S0 ws) (hin : bx_same rxL (bx_mdl rxC240.2.2.1) S0 S) (I0 : bx_Inv rxL S) (hinv : rxIPW2_5 S0 ws S part) (l8 : 0 ≤ part) (u8 : part ≤ 5) (l9 : 0 ≤ x9) (u9 : x9 ≤ 0) (l10 : 3 ≤ x10) (u10 : x10 ≤ 3) (l11 : 59 ≤ x11) (u11 : x11 ≤ 59) (e2 : S 480 14 = x9) (e1 : S 480 11 = x10) (e0 : S 480 12 = x11) : (True) ∧ (True) ∧ rxIPW2_6 S0 ws S part ∧ rxmPW2_6 S0 ws S part < rxmPW2_5 S0 ws S part := by
  obtain ⟨hI, hx⟩ := hinv
  obtain ⟨a_, b_, c_, d_⟩ := rxc240_5_2 hP hin I0 hI l8 u8 l9 u9 l10 u10 l11 u11 e2 e1 e0
  exact ⟨a_, b_, ⟨c_, hx⟩, d_⟩
theorem rxgPW2_5_2 {X : (Nat → Int → Int) → Prop} {S0 : Nat → Int → Int} {ws : List Int} (hP : rxPPW2 S0 ws) : bx_obC rxL X S0 rxC240.2.2.1 (rxIPW2 S0 ws) (rxmPW2 S0 ws) 5 rxzPW2_5 rxoPW2_5_2 := by
  intro S S' r r' hinv hX hin hsm_ hseg
  obtain ⟨I0, I1, h0_, hr_, b_, f_, d_⟩ := bx_cl (evs := [(0, (0, 480), (0, 12), .inr (1, (11, 0))), (0, (0, 480), (0, 11), .inr (0, (10, 0))), (0, (0, 480), (0, 14), .inr (0, (9, 0)))]) (fvs := []) hseg (by decide +kernel) (by decide +kernel)
  have hinv : rxIPW2_5 S0 ws S (r 8) := hinv
  rw [← hr_ 8 (by decide)] at hinv
  obtain ⟨⟨l8, u8⟩, ⟨l9, u9⟩, ⟨l10, u10⟩, ⟨l11, u11⟩, -⟩ := b_
  obtain ⟨e0, ⟨e1, ⟨e2, w_⟩⟩⟩ := d_
  subst w_
  have g := rxcPW2_5_2 hP hin I0 hinv l8 u8 l9 u9 l10 u10 l11 u11 e2 e1 e0
  refine ⟨bx_narP_ok (l := []) g.1, bx_nfP_ok h0_ (fvs := []) (by decide +kernel) g.2.1, ?_, ?_⟩
  · show rxIPW2_6 S0 ws S' (bx_val [(0, 0), (0, 0), (0, 0), (0, 0), (0, 0), (0, 0), (0, 0), (0, 0), (8, 0)] r' 8)
    rw [bx_val_x (n := 8) (e := (8, 0)) h0_ rfl]
    exact g.2.2.1
  · show rxmPW2_6 S0 ws S' (bx_val [(0, 0), (0, 0), (0, 0), (0, 0), (0, 0), (0, 0), (0, 0), (0, 0), (8, 0)] r' 8) < rxmPW2_5 S0 ws S' (r 8)
    rw [bx_val_x (n := 8) (e := (8, 0)) h0_ rfl, ← hr_ 8 (by decide)]
    exact g.2.2.2
theorem rxcPW2_5_3 {S0 : Nat → Int → Int} {ws : List Int} {S : Nat → Int → Int} {part x9 : Int} (hP : rxPPW2 S0 ws) (hin : bx_same rxL (bx_mdl rxC240.2.2.1) S0 S) (I0 : bx_Inv rxL S) (hinv : rxIPW2_5 S0 ws S part) (l8 : 0 ≤ part) (u8 : part ≤ 5) (l9 : 1 ≤ x9) (u9 : x9 ≤ 1) (f0 : x9 ≠ 0) (e0 : S 480 14 = x9) : (True) ∧ (True) ∧ rxIPW2_10 S0 ws S part ∧ rxmPW2_10 S0 ws S part < rxmPW2_5 S0 ws S part := by
  obtain ⟨hI, hx⟩ := hinv
  obtain ⟨a_, b_, c_, d_⟩ := rxc240_5_3 hP hin I0 hI l8 u8 l9 u9 f0 e0
  exact ⟨a_, b_, ⟨c_, hx⟩, d_⟩
theorem rxgPW2_5_3 {X : (Nat → Int → Int) → Prop} {S0 : Nat → Int → Int} {ws : List Int} (hP : rxPPW2 S0 ws) : bx_obC rxL X S0 rxC240.2.2.1 (rxIPW2 S0 ws) (rxmPW2 S0 ws) 5 rxzPW2_5 rxoPW2_5_3 := by
  intro S S' r r' hinv hX hin hsm_ hseg
  obtain ⟨I0, I1, h0_, hr_, b_, f_, d_⟩ := bx_cl (evs := [(0, (0, 480), (0, 14), .inr (0, (9, 0)))]) (fvs := [(3, (9, 0), (0, 0), (0, 0))]) hseg (by decide +kernel) (by decide +kernel)
  have hinv : rxIPW2_5 S0 ws S (r 8) := hinv
  rw [← hr_ 8 (by decide)] at hinv
  obtain ⟨⟨l8, u8⟩, ⟨l9, u9⟩, -⟩ := b_
  obtain ⟨f0, -⟩ := f_
  obtain ⟨e0, w_⟩ := d_
  subst w_
  have g := rxcPW2_5_3 hP hin I0 hinv l8 u8 l9 u9 f0 e0
  refine ⟨bx_narP_ok (l := []) g.1, bx_nfP_ok h0_ (fvs := []) (by decide +kernel) g.2.1, ?_, ?_⟩
  · show rxIPW2_10 S0 ws S' (bx_val [(0, 0), (0, 0), (0, 0), (0, 0), (0, 0), (0, 0), (0, 0), (0, 0), (8, 0)] r' 8)
    rw [bx_val_x (n := 8) (e := (8, 0)) h0_ rfl]
    exact g.2.2.1
  · show rxmPW2_10 S0 ws S' (bx_val [(0, 0), (0, 0), (0, 0), (0, 0), (0, 0), (0, 0), (0, 0), (0, 0), (8, 0)] r' 8) < rxmPW2_5 S0 ws S' (r 8)
    rw [bx_val_x (n := 8) (e := (8, 0)) h0_ rfl, ← hr_ 8 (by decide)]
    exact g.2.2.2
theorem rxcPW2_7_0 {S0 : Nat → Int → Int} {ws : List Int} {S : Nat → Int → Int} {part : Int} (hP : rxPPW2 S0 ws) (hin : bx_same rxL (bx_mdl rxC240.2.2.1) S0 S) (I0 : bx_Inv rxL S) (hinv : rxIPW2_7 S0 ws S part) (l8 : 0 ≤ part) (u8 : part ≤ 5) : (True) ∧ (True) ∧ rxIPW2_8 S0 ws S part ∧ rxmPW2_8 S0 ws S part < rxmPW2_7 S0 ws S part := by
  obtain ⟨hI, hx⟩ := hinv
  obtain ⟨a_, b_, c_, d_⟩ := rxc240_7_0 hP hin I0 hI l8 u8
  exact ⟨a_, b_, ⟨c_, hx⟩, d_⟩
theorem rxgPW2_7_0 {X : (Nat → Int → Int) → Prop} {S0 : Nat → Int → Int} {ws : List Int} (hP : rxPPW2 S0 ws) : bx_obC rxL X S0 rxC240.2.2.1 (rxIPW2 S0 ws) (rxmPW2 S0 ws) 7 rxzPW2_7 rxoPW2_7_0 := by
  intro S S' r r' hinv hX hin hsm_ hseg
  obtain ⟨I0, I1, h0_, hr_, b_, f_, d_⟩ := bx_cl (evs := []) (fvs := []) hseg (by decide +kernel) (by decide +kernel)
  have hinv : rxIPW2_7 S0 ws S (r 8) := hinv
  rw [← hr_ 8 (by decide)] at hinv
  obtain ⟨⟨l8, u8⟩, -⟩ := b_
  have w_ := d_
  subst w_
  have g := rxcPW2_7_0 hP hin I0 hinv l8 u8
  refine ⟨bx_narP_ok (l := []) g.1, bx_nfP_ok h0_ (fvs := []) (by decide +kernel) g.2.1, ?_, ?_⟩
  · show rxIPW2_8 S0 ws S' (bx_val [(0, 0), (0, 0), (0, 0), (0, 0), (0, 0), (0, 0), (0, 0), (0, 0), (8, 0)] r' 8)
    rw [bx_val_x (n := 8) (e := (8, 0)) h0_ rfl]
    exact g.2.2.1
  · show rxmPW2_8 S0 ws S' (bx_val [(0, 0), (0, 0), (0, 0), (0, 0), (0, 0), (0, 0), (0, 0), (0, 0), (8, 0)] r' 8) < rxmPW2_7 S0 ws S' (r 8)
    rw [bx_val_x (n := 8) (e := (8, 0)) h0_ rfl, ← hr_ 8 (by decide)]
    exact g.2.2.2
theorem rxcPW2_9_0 {S0 : Nat → Int → Int} {ws : List Int} {S : Nat → Int → Int} {part : Int} (hP : rxPPW2 S0 ws) (hin : bx_same rxL (bx_mdl rxC240.2.2.1) S0 S) (I0 : bx_Inv rxL S) (hinv : rxIPW2_9 S0 ws S part) (l8 : 0 ≤ part) (u8 : part ≤ 5) : (True) ∧ (True) ∧ rxIPW2_5 S0 ws S part ∧ rxmPW2_5 S0 ws S part < rxmPW2_9 S0 ws S part := by
  obtain ⟨hI, hx⟩ := hinv
  obtain ⟨a_, b_, c_, d_⟩ := rxc240_9_0 hP hin I0 hI l8 u8
  exact ⟨a_, b_, ⟨c_, hx⟩, d_⟩
theorem rxgPW2_9_0 {X : (Nat → Int → Int) → Prop} {S0 : Nat → Int → Int} {ws : List Int} (hP : rxPPW2 S0 ws) : bx_obC rxL X S0 rxC240.2.2.1 (rxIPW2 S0 ws) (rxmPW2 S0 ws) 9 rxzPW2_9 rxoPW2_9_0 := by
  intro S S' r r' hinv hX hin hsm_ hseg
  obtain ⟨I0, I1, h0_, hr_, b_, f_, d_⟩ := bx_cl (evs := []) (fvs := []) hseg (by decide +kernel) (by decide +kernel)
  have hinv : rxIPW2_9 S0 ws S (r 8) := hinv
  rw [← hr_ 8 (by decide)] at hinv
  obtain ⟨⟨l8, u8⟩, -⟩ := b_
  have w_ := d_
  subst w_
  have g := rxcPW2_9_0 hP hin I0 hinv l8 u8
  refine ⟨bx_narP_ok (l := []) g.1, bx_nfP_ok h0_ (fvs := []) (by decide +kernel) g.2.1, ?_, ?_⟩
  · show rxIPW2_5 S0 ws S' (bx_val [(0, 0), (0, 0), (0, 0), (0, 0), (0, 0), (0, 0), (0, 0), (0, 0), (8, 0)] r' 8)
    rw [bx_val_x (n := 8) (e := (8, 0)) h0_ rfl]
    exact g.2.2.1
  · show rxmPW2_5 S0 ws S' (bx_val [(0, 0), (0, 0), (0, 0), (0, 0), (0, 0), (0, 0), (0, 0), (0, 0), (8, 0)] r' 8) < rxmPW2_9 S0 ws S' (r 8)
    rw [bx_val_x (n := 8) (e := (8, 0)) h0_ rfl, ← hr_ 8 (by decide)]
    exact g.2.2.2
theorem rxcPW2_11_0 {S0 : Nat → Int → Int} {ws : List Int} {S : Nat → Int → Int} {part x9 : Int} (hP : rxPPW2 S0 ws) (hin : bx_same rxL (bx_mdl rxC240.2.2.1) S0 S) (I0 : bx_Inv rxL S) (hinv : rxIPW2_11 S0 ws S part) (l8 : 0 ≤ part) (u8 : part ≤ 5) (l9 : 0 ≤ x9) (u9 : x9 ≤ 0) (e1 : S 480 14 = x9) : (True) ∧ (True) ∧ rxIPW2_12 S0 ws (bx_up S 480 15 1) part 0 0 ∧ rxmPW2_12 S0 ws (bx_up S 480 15 1) part 0 0 < rxmPW2_11 S0 ws S part := by
  obtain ⟨hI, hx⟩ := hinv
  obtain ⟨a_, b_, c_, d_⟩ := rxc240_11_0 hP hin I0 hI l8 u8 l9 u9 e1
  exact ⟨a_, b_, ⟨c_, ⟨hx.1, hx.2.1, hx.2.2.1, ((bx_up_ne (by omega))).trans hx.2.2.2⟩⟩, d_⟩
theorem rxgPW2_11_0 {X : (Nat → Int → Int) → Prop} {S0 : Nat → Int → Int} {ws : List Int} (hP : rxPPW2 S0 ws) : bx_obC rxL X S0 rxC240.2.2.1 (rxIPW2 S0 ws) (rxmPW2 S0 ws) 11 rxzPW2_11 rxoPW2_11_0 := by
  intro S S' r r' hinv hX hin hsm_ hseg
  obtain ⟨I0, I1, h0_, hr_, b_, f_, d_⟩ := bx_cl (evs := [(1, (0, 480), (0, 15), .inr (0, (0, 1))), (0, (0, 480), (0, 14), .inr (0, (9, 0)))]) (fvs := []) hseg (by decide +kernel) (by decide +kernel)
  have hinv : rxIPW2_11 S0 ws S (r 8) := hinv
  rw [← hr_ 8 (by decide)] at hinv
  obtain ⟨⟨l8, u8⟩, ⟨l9, u9⟩, -⟩ := b_
  obtain ⟨T0, ⟨e1, w_⟩, w0⟩ := d_
  subst w0
  subst w_
  have g := rxcPW2_11_0 hP hin I0 hinv l8 u8 l9 u9 e1
  refine ⟨bx_narP_ok (l := []) g.1, bx_nfP_ok h0_ (fvs := []) (by decide +kernel) g.2.1, ?_, ?_⟩
  · show rxIPW2_12 S0 ws (bx_up T0 480 (15) (1)) (bx_val [(0, 0), (0, 0), (0, 0), (0, 0), (0, 0), (0, 0), (0, 0), (0, 0), (8, 0), (0, 0), (0, 0)] r' 8) (bx_val [(0, 0), (0, 0), (0, 0), (0, 0), (0, 0), (0, 0), (0, 0), (0, 0), (8, 0), (0, 0), (0, 0)] r' 9) (bx_val [(0, 0), (0, 0), (0, 0), (0, 0), (0, 0), (0, 0), (0, 0), (0, 0), (8, 0), (0, 0), (0, 0)] r' 10)
    rw [bx_val_x (n := 8) (e := (8, 0)) h0_ rfl, bx_val_x (n := 9) (e := (0, 0)) h0_ rfl, bx_val_x (n := 10) (e := (0, 0)) h0_ rfl]
    exact g.2.2.1
  · show rxmPW2_12 S0 ws (bx_up T0 480 (15) (1)) (bx_val [(0, 0), (0, 0), (0, 0), (0, 0), (0, 0), (0, 0), (0, 0), (0, 0), (8, 0), (0, 0), (0, 0)] r' 8) (bx_val [(0, 0), (0, 0), (0, 0), (0, 0), (0, 0), (0, 0), (0, 0), (0, 0), (8, 0), (0, 0), (0, 0)] r' 9) (bx_val [(0, 0), (0, 0), (0, 0), (0, 0), (0, 0), (0, 0), (0, 0), (0, 0), (8, 0), (0, 0), (0, 0)] r' 10) < rxmPW2_11 S0 ws T0 (r 8)
    rw [bx_val_x (n := 8) (e := (8, 0)) h0_ rfl, bx_val_x (n := 9) (e := (0, 0)) h0_ rfl, bx_val_x (n := 10) (e := (0, 0)) h0_ rfl, ← hr_ 8 (by decide)]
    exact g.2.2.2
theorem rxdPW2_11_0 {S0 : Nat → Int → Int} {ws : List Int} {S : Nat → Int → Int} {part x9 x10 x11 : Int} (hP : rxPPW2 S0 ws) (hin : bx_same rxL (bx_mdl rxC240.2.2.1) S0 S) (hin2 : bx_same rxL (bx_mdl rxC240.2.2.1) S (bx_up (bx_up S 480 1 ((-6))) 481 6 x11)) (I0 : bx_Inv rxL S) (I1 : bx_Inv rxL (bx_up (bx_up S 480 1 ((-6))) 481 6 x11)) (hinv : rxIPW2_11 S0 ws S part) (l8 : 0 ≤ part) (u8 : part ≤ 5) (l9 : 1 ≤ x9) (u9 : x9 ≤ 1) (l10 : (-2147483648) ≤ x10) (u10 : x10 ≤ 2147483647) (l11 : (-2147483648) ≤ x11) (u11 : x11 ≤ 2147483647) (f0 : x9 ≠ 0) (e3 : S 480 14 = x9) (e1 : (bx_up S 480 1 ((-6))) 481 6 = x10) : (True) ∧ rxPSPW2 S0 ws (bx_up (bx_up S 480 1 ((-6))) 481 6 x11) (some ((-6))) := by
  obtain ⟨hI, hx⟩ := hinv
  obtain ⟨a_, c_⟩ := rxd240_11_0 hP hin hin2 I0 I1 hI l8 u8 l9 u9 l10 u10 l11 u11 f0 e3 e1
  exact ⟨a_, c_, ⟨part, hx.1, Or.inr ⟨hx.2.1, hx.2.2.1, True.intro, ((bx_up_ne (by omega)).trans ((bx_up_ne (by omega)))).trans hx.2.2.2⟩⟩⟩
theorem rxfPW2_11_0 {X : (Nat → Int → Int) → Prop} {S0 : Nat → Int → Int} {ws : List Int} (hP : rxPPW2 S0 ws) : bx_obE rxL X S0 rxC240.2.2.1 (rxIPW2 S0 ws) (rxPSPW2 S0 ws) 11 rxzPW2_11 rxePW2_11_0 := by
  intro S S' r r' hinv hX hin hsm_ hseg
  obtain ⟨I0, I1, h0_, hr_, b_, f_, d_⟩ := bx_cl (evs := [(1, (0, 481), (0, 6), .inr (0, (11, 0))), (0, (0, 481), (0, 6), .inr (0, (10, 0))), (1, (0, 480), (0, 1), .inr (0, (0, (-6)))), (0, (0, 480), (0, 14), .inr (0, (9, 0)))]) (fvs := [(3, (9, 0), (0, 0), (0, 0))]) hseg (by decide +kernel) (by decide +kernel)
  have hinv : rxIPW2_11 S0 ws S (r 8) := hinv
  rw [← hr_ 8 (by decide)] at hinv
  obtain ⟨⟨l8, u8⟩, ⟨l9, u9⟩, ⟨l10, u10⟩, ⟨l11, u11⟩, -⟩ := b_
  obtain ⟨f0, -⟩ := f_
  obtain ⟨T0, ⟨e1, ⟨T2, ⟨e3, w_⟩, w2⟩⟩, w0⟩ := d_
  subst w0
  subst w2
  subst w_
  have g := rxdPW2_11_0 hP hin hsm_ I0 I1 hinv l8 u8 l9 u9 l10 u10 l11 u11 f0 e3 e1
  refine ⟨bx_narP_ok (l := []) g.1, ?_⟩
  show rxPSPW2 S0 ws (bx_up (bx_up T2 480 (1) ((-6))) 481 (6) (r' 11)) (some (bx_num r' (.inr (0, (0, (-6))))))
  rw [bx_xv_ok h0_]
  exact g.2
theorem rxcPW2_12_0 {S0 : Nat → Int → Int} {ws : List Int} {S : Nat → Int → Int} {part n at_ x11 x12 : Int} (hP : rxPPW2 S0 ws) (hin : bx_same rxL (bx_mdl rxC240.2.2.1) S0 S) (I0 : bx_Inv rxL S) (hinv : rxIPW2_12 S0 ws S part n at_) (l8 : 0 ≤ part) (u8 : part ≤ 5) (l9 : 0 ≤ n) (u9 : n ≤ 432) (l10 : 0 ≤ at_) (u10 : at_ ≤ 119) (l11 : 0 ≤ x11) (u11 : x11 ≤ 12) (l12 : 1 ≤ x12) (u12 : x12 ≤ 120) (f0 : at_ < x12) (f1 : x12 = 10 * (x11)) (e0 : S 480 16 = x11) : ((0 ≤ at_ ∧ at_ ≤ 110) ∧ True) ∧ (True) ∧ rxIPW2_13 S0 ws S part n at_ 0 ∧ rxmPW2_13 S0 ws S part n at_ 0 < rxmPW2_12 S0 ws S part n at_ := by
  obtain ⟨hI, hx⟩ := hinv
  obtain ⟨a_, b_, c_, d_⟩ := rxc240_12_0 hP hin I0 hI l8 u8 l9 u9 l10 u10 l11 u11 l12 u12 f0 f1 e0
  exact ⟨a_, b_, ⟨c_, hx⟩, d_⟩
theorem rxgPW2_12_0 {X : (Nat → Int → Int) → Prop} {S0 : Nat → Int → Int} {ws : List Int} (hP : rxPPW2 S0 ws) : bx_obC rxL X S0 rxC240.2.2.1 (rxIPW2 S0 ws) (rxmPW2 S0 ws) 12 rxzPW2_12 rxoPW2_12_0 := by
  intro S S' r r' hinv hX hin hsm_ hseg
  obtain ⟨I0, I1, h0_, hr_, b_, f_, d_⟩ := bx_cl (evs := [(0, (0, 480), (0, 16), .inr (0, (11, 0)))]) (fvs := [(0, (10, 0), (12, 0), (0, 0)), (4, (12, 0), (11, 0), (0, 10))]) hseg (by decide +kernel) (by decide +kernel)
  have hinv : rxIPW2_12 S0 ws S (r 8) (r 9) (r 10) := hinv
  rw [← hr_ 8 (by decide), ← hr_ 9 (by decide), ← hr_ 10 (by decide)] at hinv
  obtain ⟨⟨l8, u8⟩, ⟨l9, u9⟩, ⟨l10, u10⟩, ⟨l11, u11⟩, ⟨l12, u12⟩, -⟩ := b_
  obtain ⟨f0, f1, -⟩ := f_
  obtain ⟨e0, w_⟩ := d_
  subst w_
  have g := rxcPW2_12_0 hP hin I0 hinv l8 u8 l9 u9 l10 u10 l11 u11 l12 u12 f0 f1 e0
  refine ⟨bx_narP_ok (l := [(10, 0, 110)]) g.1, bx_nfP_ok h0_ (fvs := []) (by decide +kernel) g.2.1, ?_, ?_⟩
  · show rxIPW2_13 S0 ws S' (bx_val [(0, 0), (0, 0), (0, 0), (0, 0), (0, 0), (0, 0), (0, 0), (0, 0), (8, 0), (9, 0), (10, 0), (0, 0)] r' 8) (bx_val [(0, 0), (0, 0), (0, 0), (0, 0), (0, 0), (0, 0), (0, 0), (0, 0), (8, 0), (9, 0), (10, 0), (0, 0)] r' 9) (bx_val [(0, 0), (0, 0), (0, 0), (0, 0), (0, 0), (0, 0), (0, 0), (0, 0), (8, 0), (9, 0), (10, 0), (0, 0)] r' 10) (bx_val [(0, 0), (0, 0), (0, 0), (0, 0), (0, 0), (0, 0), (0, 0), (0, 0), (8, 0), (9, 0), (10, 0), (0, 0)] r' 11)
    rw [bx_val_x (n := 8) (e := (8, 0)) h0_ rfl, bx_val_x (n := 9) (e := (9, 0)) h0_ rfl, bx_val_x (n := 10) (e := (10, 0)) h0_ rfl, bx_val_x (n := 11) (e := (0, 0)) h0_ rfl]
    exact g.2.2.1
  · show rxmPW2_13 S0 ws S' (bx_val [(0, 0), (0, 0), (0, 0), (0, 0), (0, 0), (0, 0), (0, 0), (0, 0), (8, 0), (9, 0), (10, 0), (0, 0)] r' 8) (bx_val [(0, 0), (0, 0), (0, 0), (0, 0), (0, 0), (0, 0), (0, 0), (0, 0), (8, 0), (9, 0), (10, 0), (0, 0)] r' 9) (bx_val [(0, 0), (0, 0), (0, 0), (0, 0), (0, 0), (0, 0), (0, 0), (0, 0), (8, 0), (9, 0), (10, 0), (0, 0)] r' 10) (bx_val [(0, 0), (0, 0), (0, 0), (0, 0), (0, 0), (0, 0), (0, 0), (0, 0), (8, 0), (9, 0), (10, 0), (0, 0)] r' 11) < rxmPW2_12 S0 ws S' (r 8) (r 9) (r 10)
    rw [bx_val_x (n := 8) (e := (8, 0)) h0_ rfl, bx_val_x (n := 9) (e := (9, 0)) h0_ rfl, bx_val_x (n := 10) (e := (10, 0)) h0_ rfl, bx_val_x (n := 11) (e := (0, 0)) h0_ rfl, ← hr_ 8 (by decide), ← hr_ 9 (by decide), ← hr_ 10 (by decide)]
    exact g.2.2.2
theorem rxdPW2_12_0 {S0 : Nat → Int → Int} {ws : List Int} {S : Nat → Int → Int} {part n at_ x11 x12 : Int} (hP : rxPPW2 S0 ws) (hin : bx_same rxL (bx_mdl rxC240.2.2.1) S0 S) (hin2 : bx_same rxL (bx_mdl rxC240.2.2.1) S (bx_up (bx_up S 480 15 0) 480 1 0)) (I0 : bx_Inv rxL S) (I1 : bx_Inv rxL (bx_up (bx_up S 480 15 0) 480 1 0)) (hinv : rxIPW2_12 S0 ws S part n at_) (l8 : 0 ≤ part) (u8 : part ≤ 5) (l9 : 0 ≤ n) (u9 : n ≤ 432) (l10 : 0 ≤ at_) (u10 : at_ ≤ 120) (l11 : 0 ≤ x11) (u11 : x11 ≤ 12) (l12 : 0 ≤ x12) (u12 : x12 ≤ 120) (f0 : x12 ≤ at_) (f1 : x12 = 10 * (x11)) (e2 : S 480 16 = x11) : (True) ∧ rxPSPW2 S0 ws (bx_up (bx_up S 480 15 0) 480 1 0) (some n) := by
  obtain ⟨hI, hx⟩ := hinv
  obtain ⟨a_, c_⟩ := rxd240_12_0 hP hin hin2 I0 I1 hI l8 u8 l9 u9 l10 u10 l11 u11 l12 u12 f0 f1 e2
  exact ⟨a_, c_, ⟨part, hx.1, Or.inr ⟨hx.2.1, hx.2.2.1, True.intro, ((bx_up_ne (by omega)).trans ((bx_up_ne (by omega)))).trans hx.2.2.2⟩⟩⟩
theorem rxfPW2_12_0 {X : (Nat → Int → Int) → Prop} {S0 : Nat → Int → Int} {ws : List Int} (hP : rxPPW2 S0 ws) : bx_obE rxL X S0 rxC240.2.2.1 (rxIPW2 S0 ws) (rxPSPW2 S0 ws) 12 rxzPW2_12 rxePW2_12_0 := by
  intro S S' r r' hinv hX hin hsm_ hseg
  obtain ⟨I0, I1, h0_, hr_, b_, f_, d_⟩ := bx_cl (evs := [(1, (0, 480), (0, 1), .inr (0, (0, 0))), (1, (0, 480), (0, 15), .inr (0, (0, 0))), (0, (0, 480), (0, 16), .inr (0, (11, 0)))]) (fvs := [(1, (12, 0), (10, 0), (0, 0)), (4, (12, 0), (11, 0), (0, 10))]) hseg (by decide +kernel) (by decide +kernel)
  have hinv : rxIPW2_12 S0 ws S (r 8) (r 9) (r 10) := hinv
  rw [← hr_ 8 (by decide), ← hr_ 9 (by decide), ← hr_ 10 (by decide)] at hinv
  obtain ⟨⟨l8, u8⟩, ⟨l9, u9⟩, ⟨l10, u10⟩, ⟨l11, u11⟩, ⟨l12, u12⟩, -⟩ := b_
  obtain ⟨f0, f1, -⟩ := f_
  obtain ⟨T0, ⟨T1, ⟨e2, w_⟩, w1⟩, w0⟩ := d_
  subst w0
  subst w1
  subst w_
  have g := rxdPW2_12_0 hP hin hsm_ I0 I1 hinv l8 u8 l9 u9 l10 u10 l11 u11 l12 u12 f0 f1 e2
  refine ⟨bx_narP_ok (l := []) g.1, ?_⟩
  show rxPSPW2 S0 ws (bx_up (bx_up T1 480 (15) (0)) 480 (1) (0)) (some (bx_num r' (.inr (0, (9, 0)))))
  rw [bx_xv_ok h0_]
  exact g.2
theorem rxcPW2_13_0 {S0 : Nat → Int → Int} {ws : List Int} {S : Nat → Int → Int} {part n at_ c x12 x13 x14 x15 x16 x17 x18 x19 : Int} (hP : rxPPW2 S0 ws) (hin : bx_same rxL (bx_mdl rxC240.2.2.1) S0 S) (I0 : bx_Inv rxL S) (hinv : rxIPW2_13 S0 ws S part n at_ c) (l8 : 0 ≤ part) (u8 : part ≤ 5) (l9 : 0 ≤ n) (u9 : n ≤ 432) (l10 : 0 ≤ at_) (u10 : at_ ≤ 110) (l11 : 0 ≤ c) (u11 : c ≤ 35) (l12 : (-2147483648) ≤ x12) (u12 : x12 ≤ 2147483647) (l13 : 0 ≤ x13) (u13 : x13 ≤ 5) (l14 : 0 ≤ x14) (u14 : x14 ≤ 5) (l15 : (-2147483648) ≤ x15) (u15 : x15 ≤ 2147483647) (l16 : 0 ≤ x16) (u16 : x16 ≤ 5) (l17 : 0 ≤ x17) (u17 : x17 ≤ 5) (l18 : 0 ≤ x18) (u18 : x18 ≤ 5) (l19 : 0 ≤ x19) (u19 : x19 ≤ 5) (f0 : x16 = x17) (f1 : x15 ≠ (-1)) (f2 : x13 = x14) (f3 : x12 ≠ (-1)) (e3 : S 496 at_ = x12) (e2 : S 496 at_ = x13) (e1 : S 496 (at_ + 1) = x15) (e0 : S 496 (at_ + 1) = x16) : ((0 ≤ n ∧ n ≤ 431) ∧ True) ∧ (True) ∧ rxIPW2_14 S0 ws S part at_ c n at_ part x18 x19 ∧ rxmPW2_14 S0 ws S part at_ c n at_ part x18 x19 < rxmPW2_13 S0 ws S part n at_ c := by
  obtain ⟨hI, hx⟩ := hinv
  obtain ⟨a_, b_, c_, d_⟩ := rxc240_13_0 hP hin I0 hI l8 u8 l9 u9 l10 u10 l11 u11 l12 u12 l13 u13 l14 u14 l15 u15 l16 u16 l17 u17 l18 u18 l19 u19 f0 f1 f2 f3 e3 e2 e1 e0
  exact ⟨a_, b_, ⟨c_, hx⟩, d_⟩
theorem rxgPW2_13_0 {X : (Nat → Int → Int) → Prop} {S0 : Nat → Int → Int} {ws : List Int} (hP : rxPPW2 S0 ws) : bx_obC rxL X S0 rxC240.2.2.1 (rxIPW2 S0 ws) (rxmPW2 S0 ws) 13 rxzPW2_13 rxoPW2_13_0 := by
  intro S S' r r' hinv hX hin hsm_ hseg
  obtain ⟨I0, I1, h0_, hr_, b_, f_, d_⟩ := bx_cl (evs := [(0, (0, 496), (10, 1), .inr (0, (16, 0))), (0, (0, 496), (10, 1), .inr (0, (15, 0))), (0, (0, 496), (10, 0), .inr (0, (13, 0))), (0, (0, 496), (10, 0), .inr (0, (12, 0)))]) (fvs := [(2, (16, 0), (17, 0), (0, 0)), (3, (15, 0), (0, (-1)), (0, 0)), (2, (13, 0), (14, 0), (0, 0)), (3, (12, 0), (0, (-1)), (0, 0))]) hseg (by decide +kernel) (by decide +kernel)
  have hinv : rxIPW2_13 S0 ws S (r 8) (r 9) (r 10) (r 11) := hinv
  rw [← hr_ 8 (by decide), ← hr_ 9 (by decide), ← hr_ 10 (by decide), ← hr_ 11 (by decide)] at hinv
  obtain ⟨⟨l8, u8⟩, ⟨l9, u9⟩, ⟨l10, u10⟩, ⟨l11, u11⟩, ⟨l12, u12⟩, ⟨l13, u13⟩, ⟨l14, u14⟩, ⟨l15, u15⟩, ⟨l16, u16⟩, ⟨l17, u17⟩, ⟨l18, u18⟩, ⟨l19, u19⟩, -⟩ := b_
  obtain ⟨f0, f1, f2, f3, -⟩ := f_
  obtain ⟨e0, ⟨e1, ⟨e2, ⟨e3, w_⟩⟩⟩⟩ := d_
  subst w_
  have g := rxcPW2_13_0 hP hin I0 hinv l8 u8 l9 u9 l10 u10 l11 u11 l12 u12 l13 u13 l14 u14 l15 u15 l16 u16 l17 u17 l18 u18 l19 u19 f0 f1 f2 f3 e3 e2 e1 e0
  refine ⟨bx_narP_ok (l := [(9, 0, 431)]) g.1, bx_nfP_ok h0_ (fvs := []) (by decide +kernel) g.2.1, ?_, ?_⟩
  · show rxIPW2_14 S0 ws S' (bx_val [(0, 0), (0, 0), (0, 0), (0, 0), (0, 0), (0, 0), (0, 0), (0, 0), (8, 0), (10, 0), (11, 0), (9, 0), (10, 0), (8, 0), (18, 0), (19, 0)] r' 8) (bx_val [(0, 0), (0, 0), (0, 0), (0, 0), (0, 0), (0, 0), (0, 0), (0, 0), (8, 0), (10, 0), (11, 0), (9, 0), (10, 0), (8, 0), (18, 0), (19, 0)] r' 9) (bx_val [(0, 0), (0, 0), (0, 0), (0, 0), (0, 0), (0, 0), (0, 0), (0, 0), (8, 0), (10, 0), (11, 0), (9, 0), (10, 0), (8, 0), (18, 0), (19, 0)] r' 10) (bx_val [(0, 0), (0, 0), (0, 0), (0, 0), (0, 0), (0, 0), (0, 0), (0, 0), (8, 0), (10, 0), (11, 0), (9, 0), (10, 0), (8, 0), (18, 0), (19, 0)] r' 11) (bx_val [(0, 0), (0, 0), (0, 0), (0, 0), (0, 0), (0, 0), (0, 0), (0, 0), (8, 0), (10, 0), (11, 0), (9, 0), (10, 0), (8, 0), (18, 0), (19, 0)] r' 12) (bx_val [(0, 0), (0, 0), (0, 0), (0, 0), (0, 0), (0, 0), (0, 0), (0, 0), (8, 0), (10, 0), (11, 0), (9, 0), (10, 0), (8, 0), (18, 0), (19, 0)] r' 13) (bx_val [(0, 0), (0, 0), (0, 0), (0, 0), (0, 0), (0, 0), (0, 0), (0, 0), (8, 0), (10, 0), (11, 0), (9, 0), (10, 0), (8, 0), (18, 0), (19, 0)] r' 14) (bx_val [(0, 0), (0, 0), (0, 0), (0, 0), (0, 0), (0, 0), (0, 0), (0, 0), (8, 0), (10, 0), (11, 0), (9, 0), (10, 0), (8, 0), (18, 0), (19, 0)] r' 15)
    rw [bx_val_x (n := 8) (e := (8, 0)) h0_ rfl, bx_val_x (n := 9) (e := (10, 0)) h0_ rfl, bx_val_x (n := 10) (e := (11, 0)) h0_ rfl, bx_val_x (n := 11) (e := (9, 0)) h0_ rfl, bx_val_x (n := 12) (e := (10, 0)) h0_ rfl, bx_val_x (n := 13) (e := (8, 0)) h0_ rfl, bx_val_x (n := 14) (e := (18, 0)) h0_ rfl, bx_val_x (n := 15) (e := (19, 0)) h0_ rfl]
    exact g.2.2.1
  · show rxmPW2_14 S0 ws S' (bx_val [(0, 0), (0, 0), (0, 0), (0, 0), (0, 0), (0, 0), (0, 0), (0, 0), (8, 0), (10, 0), (11, 0), (9, 0), (10, 0), (8, 0), (18, 0), (19, 0)] r' 8) (bx_val [(0, 0), (0, 0), (0, 0), (0, 0), (0, 0), (0, 0), (0, 0), (0, 0), (8, 0), (10, 0), (11, 0), (9, 0), (10, 0), (8, 0), (18, 0), (19, 0)] r' 9) (bx_val [(0, 0), (0, 0), (0, 0), (0, 0), (0, 0), (0, 0), (0, 0), (0, 0), (8, 0), (10, 0), (11, 0), (9, 0), (10, 0), (8, 0), (18, 0), (19, 0)] r' 10) (bx_val [(0, 0), (0, 0), (0, 0), (0, 0), (0, 0), (0, 0), (0, 0), (0, 0), (8, 0), (10, 0), (11, 0), (9, 0), (10, 0), (8, 0), (18, 0), (19, 0)] r' 11) (bx_val [(0, 0), (0, 0), (0, 0), (0, 0), (0, 0), (0, 0), (0, 0), (0, 0), (8, 0), (10, 0), (11, 0), (9, 0), (10, 0), (8, 0), (18, 0), (19, 0)] r' 12) (bx_val [(0, 0), (0, 0), (0, 0), (0, 0), (0, 0), (0, 0), (0, 0), (0, 0), (8, 0), (10, 0), (11, 0), (9, 0), (10, 0), (8, 0), (18, 0), (19, 0)] r' 13) (bx_val [(0, 0), (0, 0), (0, 0), (0, 0), (0, 0), (0, 0), (0, 0), (0, 0), (8, 0), (10, 0), (11, 0), (9, 0), (10, 0), (8, 0), (18, 0), (19, 0)] r' 14) (bx_val [(0, 0), (0, 0), (0, 0), (0, 0), (0, 0), (0, 0), (0, 0), (0, 0), (8, 0), (10, 0), (11, 0), (9, 0), (10, 0), (8, 0), (18, 0), (19, 0)] r' 15) < rxmPW2_13 S0 ws S' (r 8) (r 9) (r 10) (r 11)
    rw [bx_val_x (n := 8) (e := (8, 0)) h0_ rfl, bx_val_x (n := 9) (e := (10, 0)) h0_ rfl, bx_val_x (n := 10) (e := (11, 0)) h0_ rfl, bx_val_x (n := 11) (e := (9, 0)) h0_ rfl, bx_val_x (n := 12) (e := (10, 0)) h0_ rfl, bx_val_x (n := 13) (e := (8, 0)) h0_ rfl, bx_val_x (n := 14) (e := (18, 0)) h0_ rfl, bx_val_x (n := 15) (e := (19, 0)) h0_ rfl, ← hr_ 8 (by decide), ← hr_ 9 (by decide), ← hr_ 10 (by decide), ← hr_ 11 (by decide)]
    exact g.2.2.2
theorem rxcPW2_13_1 {S0 : Nat → Int → Int} {ws : List Int} {S : Nat → Int → Int} {part n at_ c x12 x13 x14 x15 x16 x17 : Int} (hP : rxPPW2 S0 ws) (hin : bx_same rxL (bx_mdl rxC240.2.2.1) S0 S) (I0 : bx_Inv rxL S) (hinv : rxIPW2_13 S0 ws S part n at_ c) (l8 : 0 ≤ part) (u8 : part ≤ 5) (l9 : 0 ≤ n) (u9 : n ≤ 432) (l10 : 0 ≤ at_) (u10 : at_ ≤ 110) (l11 : 0 ≤ c) (u11 : c ≤ 35) (l12 : (-2147483648) ≤ x12) (u12 : x12 ≤ 2147483647) (l13 : 0 ≤ x13) (u13 : x13 ≤ 5) (l14 : 0 ≤ x14) (u14 : x14 ≤ 5) (l15 : (-2147483648) ≤ x15) (u15 : x15 ≤ 2147483647) (l16 : (-2147483648) ≤ x16) (u16 : x16 ≤ 2147483647) (l17 : 0 ≤ x17) (u17 : x17 ≤ 5) (f0 : x16 ≠ x17) (f1 : x15 ≠ (-1)) (f2 : x13 = x14) (f3 : x12 ≠ (-1)) (e3 : S 496 at_ = x12) (e2 : S 496 at_ = x13) (e1 : S 496 (at_ + 1) = x15) (e0 : S 496 (at_ + 1) = x16) : (True) ∧ (True) ∧ rxIPW2_13 S0 ws S part n at_ (c + 1) ∧ rxmPW2_13 S0 ws S part n at_ (c + 1) < rxmPW2_13 S0 ws S part n at_ c := by
  obtain ⟨hI, hx⟩ := hinv
  obtain ⟨a_, b_, c_, d_⟩ := rxc240_13_1 hP hin I0 hI l8 u8 l9 u9 l10 u10 l11 u11 l12 u12 l13 u13 l14 u14 l15 u15 l16 u16 l17 u17 f0 f1 f2 f3 e3 e2 e1 e0
  exact ⟨a_, b_, ⟨c_, hx⟩, d_⟩
theorem rxgPW2_13_1 {X : (Nat → Int → Int) → Prop} {S0 : Nat → Int → Int} {ws : List Int} (hP : rxPPW2 S0 ws) : bx_obC rxL X S0 rxC240.2.2.1 (rxIPW2 S0 ws) (rxmPW2 S0 ws) 13 rxzPW2_13 rxoPW2_13_1 := by
  intro S S' r r' hinv hX hin hsm_ hseg
  obtain ⟨I0, I1, h0_, hr_, b_, f_, d_⟩ := bx_cl (evs := [(0, (0, 496), (10, 1), .inr (0, (16, 0))), (0, (0, 496), (10, 1), .inr (0, (15, 0))), (0, (0, 496), (10, 0), .inr (0, (13, 0))), (0, (0, 496), (10, 0), .inr (0, (12, 0)))]) (fvs := [(3, (16, 0), (17, 0), (0, 0)), (3, (15, 0), (0, (-1)), (0, 0)), (2, (13, 0), (14, 0), (0, 0)), (3, (12, 0), (0, (-1)), (0, 0))]) hseg (by decide +kernel) (by decide +kernel)
  have hinv : rxIPW2_13 S0 ws S (r 8) (r 9) (r 10) (r 11) := hinv
  rw [← hr_ 8 (by decide), ← hr_ 9 (by decide), ← hr_ 10 (by decide), ← hr_ 11 (by decide)] at hinv
  obtain ⟨⟨l8, u8⟩, ⟨l9, u9⟩, ⟨l10, u10⟩, ⟨l11, u11⟩, ⟨l12, u12⟩, ⟨l13, u13⟩, ⟨l14, u14⟩, ⟨l15, u15⟩, ⟨l16, u16⟩, ⟨l17, u17⟩, -⟩ := b_
  obtain ⟨f0, f1, f2, f3, -⟩ := f_
  obtain ⟨e0, ⟨e1, ⟨e2, ⟨e3, w_⟩⟩⟩⟩ := d_
  subst w_
  have g := rxcPW2_13_1 hP hin I0 hinv l8 u8 l9 u9 l10 u10 l11 u11 l12 u12 l13 u13 l14 u14 l15 u15 l16 u16 l17 u17 f0 f1 f2 f3 e3 e2 e1 e0
  refine ⟨bx_narP_ok (l := []) g.1, bx_nfP_ok h0_ (fvs := []) (by decide +kernel) g.2.1, ?_, ?_⟩
  · show rxIPW2_13 S0 ws S' (bx_val [(0, 0), (0, 0), (0, 0), (0, 0), (0, 0), (0, 0), (0, 0), (0, 0), (8, 0), (9, 0), (10, 0), (11, 1)] r' 8) (bx_val [(0, 0), (0, 0), (0, 0), (0, 0), (0, 0), (0, 0), (0, 0), (0, 0), (8, 0), (9, 0), (10, 0), (11, 1)] r' 9) (bx_val [(0, 0), (0, 0), (0, 0), (0, 0), (0, 0), (0, 0), (0, 0), (0, 0), (8, 0), (9, 0), (10, 0), (11, 1)] r' 10) (bx_val [(0, 0), (0, 0), (0, 0), (0, 0), (0, 0), (0, 0), (0, 0), (0, 0), (8, 0), (9, 0), (10, 0), (11, 1)] r' 11)
    rw [bx_val_x (n := 8) (e := (8, 0)) h0_ rfl, bx_val_x (n := 9) (e := (9, 0)) h0_ rfl, bx_val_x (n := 10) (e := (10, 0)) h0_ rfl, bx_val_x (n := 11) (e := (11, 1)) h0_ rfl]
    exact g.2.2.1
  · show rxmPW2_13 S0 ws S' (bx_val [(0, 0), (0, 0), (0, 0), (0, 0), (0, 0), (0, 0), (0, 0), (0, 0), (8, 0), (9, 0), (10, 0), (11, 1)] r' 8) (bx_val [(0, 0), (0, 0), (0, 0), (0, 0), (0, 0), (0, 0), (0, 0), (0, 0), (8, 0), (9, 0), (10, 0), (11, 1)] r' 9) (bx_val [(0, 0), (0, 0), (0, 0), (0, 0), (0, 0), (0, 0), (0, 0), (0, 0), (8, 0), (9, 0), (10, 0), (11, 1)] r' 10) (bx_val [(0, 0), (0, 0), (0, 0), (0, 0), (0, 0), (0, 0), (0, 0), (0, 0), (8, 0), (9, 0), (10, 0), (11, 1)] r' 11) < rxmPW2_13 S0 ws S' (r 8) (r 9) (r 10) (r 11)
    rw [bx_val_x (n := 8) (e := (8, 0)) h0_ rfl, bx_val_x (n := 9) (e := (9, 0)) h0_ rfl, bx_val_x (n := 10) (e := (10, 0)) h0_ rfl, bx_val_x (n := 11) (e := (11, 1)) h0_ rfl, ← hr_ 8 (by decide), ← hr_ 9 (by decide), ← hr_ 10 (by decide), ← hr_ 11 (by decide)]
    exact g.2.2.2
theorem rxcPW2_13_2 {S0 : Nat → Int → Int} {ws : List Int} {S : Nat → Int → Int} {part n at_ c x12 x13 x14 x15 x16 x17 : Int} (hP : rxPPW2 S0 ws) (hin : bx_same rxL (bx_mdl rxC240.2.2.1) S0 S) (I0 : bx_Inv rxL S) (hinv : rxIPW2_13 S0 ws S part n at_ c) (l8 : 0 ≤ part) (u8 : part ≤ 5) (l9 : 0 ≤ n) (u9 : n ≤ 432) (l10 : 0 ≤ at_) (u10 : at_ ≤ 110) (l11 : 0 ≤ c) (u11 : c ≤ 35) (l12 : (-2147483648) ≤ x12) (u12 : x12 ≤ 2147483647) (l13 : 0 ≤ x13) (u13 : x13 ≤ 5) (l14 : 0 ≤ x14) (u14 : x14 ≤ 5) (l15 : (-1) ≤ x15) (u15 : x15 ≤ (-1)) (l16 : 0 ≤ x16) (u16 : x16 ≤ 5) (l17 : 0 ≤ x17) (u17 : x17 ≤ 5) (f0 : x13 = x14) (f1 : x12 ≠ (-1)) (e2 : S 496 at_ = x12) (e1 : S 496 at_ = x13) (e0 : S 496 (at_ + 1) = x15) : ((0 ≤ n ∧ n ≤ 431) ∧ True) ∧ (True) ∧ rxIPW2_14 S0 ws S part at_ c n at_ part x16 x17 ∧ rxmPW2_14 S0 ws S part at_ c n at_ part x16 x17 < rxmPW2_13 S0 ws S part n at_ c := by
  obtain ⟨hI, hx⟩ := hinv
  obtain ⟨a_, b_, c_, d_⟩ := rxc240_13_2 hP hin I0 hI l8 u8 l9 u9 l10 u10 l11 u11 l12 u12 l13 u13 l14 u14 l15 u15 l16 u16 l17 u17 f0 f1 e2 e1 e0
  exact ⟨a_, b_, ⟨c_, hx⟩, d_⟩
theorem rxgPW2_13_2 {X : (Nat → Int → Int) → Prop} {S0 : Nat → Int → Int} {ws : List Int} (hP : rxPPW2 S0 ws) : bx_obC rxL X S0 rxC240.2.2.1 (rxIPW2 S0 ws) (rxmPW2 S0 ws) 13 rxzPW2_13 rxoPW2_13_2 := by
  intro S S' r r' hinv hX hin hsm_ hseg
  obtain ⟨I0, I1, h0_, hr_, b_, f_, d_⟩ := bx_cl (evs := [(0, (0, 496), (10, 1), .inr (0, (15, 0))), (0, (0, 496), (10, 0), .inr (0, (13, 0))), (0, (0, 496), (10, 0), .inr (0, (12, 0)))]) (fvs := [(2, (13, 0), (14, 0), (0, 0)), (3, (12, 0), (0, (-1)), (0, 0))]) hseg (by decide +kernel) (by decide +kernel)
  have hinv : rxIPW2_13 S0 ws S (r 8) (r 9) (r 10) (r 11) := hinv
  rw [← hr_ 8 (by decide), ← hr_ 9 (by decide), ← hr_ 10 (by decide), ← hr_ 11 (by decide)] at hinv
  obtain ⟨⟨l8, u8⟩, ⟨l9, u9⟩, ⟨l10, u10⟩, ⟨l11, u11⟩, ⟨l12, u12⟩, ⟨l13, u13⟩, ⟨l14, u14⟩, ⟨l15, u15⟩, ⟨l16, u16⟩, ⟨l17, u17⟩, -⟩ := b_
  obtain ⟨f0, f1, -⟩ := f_
  obtain ⟨e0, ⟨e1, ⟨e2, w_⟩⟩⟩ := d_
  subst w_
  have g := rxcPW2_13_2 hP hin I0 hinv l8 u8 l9 u9 l10 u10 l11 u11 l12 u12 l13 u13 l14 u14 l15 u15 l16 u16 l17 u17 f0 f1 e2 e1 e0
  refine ⟨bx_narP_ok (l := [(9, 0, 431)]) g.1, bx_nfP_ok h0_ (fvs := []) (by decide +kernel) g.2.1, ?_, ?_⟩
  · show rxIPW2_14 S0 ws S' (bx_val [(0, 0), (0, 0), (0, 0), (0, 0), (0, 0), (0, 0), (0, 0), (0, 0), (8, 0), (10, 0), (11, 0), (9, 0), (10, 0), (8, 0), (16, 0), (17, 0)] r' 8) (bx_val [(0, 0), (0, 0), (0, 0), (0, 0), (0, 0), (0, 0), (0, 0), (0, 0), (8, 0), (10, 0), (11, 0), (9, 0), (10, 0), (8, 0), (16, 0), (17, 0)] r' 9) (bx_val [(0, 0), (0, 0), (0, 0), (0, 0), (0, 0), (0, 0), (0, 0), (0, 0), (8, 0), (10, 0), (11, 0), (9, 0), (10, 0), (8, 0), (16, 0), (17, 0)] r' 10) (bx_val [(0, 0), (0, 0), (0, 0), (0, 0), (0, 0), (0, 0), (0, 0), (0, 0), (8, 0), (10, 0), (11, 0), (9, 0), (10, 0), (8, 0), (16, 0), (17, 0)] r' 11) (bx_val [(0, 0), (0, 0), (0, 0), (0, 0), (0, 0), (0, 0), (0, 0), (0, 0), (8, 0), (10, 0), (11, 0), (9, 0), (10, 0), (8, 0), (16, 0), (17, 0)] r' 12) (bx_val [(0, 0), (0, 0), (0, 0), (0, 0), (0, 0), (0, 0), (0, 0), (0, 0), (8, 0), (10, 0), (11, 0), (9, 0), (10, 0), (8, 0), (16, 0), (17, 0)] r' 13) (bx_val [(0, 0), (0, 0), (0, 0), (0, 0), (0, 0), (0, 0), (0, 0), (0, 0), (8, 0), (10, 0), (11, 0), (9, 0), (10, 0), (8, 0), (16, 0), (17, 0)] r' 14) (bx_val [(0, 0), (0, 0), (0, 0), (0, 0), (0, 0), (0, 0), (0, 0), (0, 0), (8, 0), (10, 0), (11, 0), (9, 0), (10, 0), (8, 0), (16, 0), (17, 0)] r' 15)
    rw [bx_val_x (n := 8) (e := (8, 0)) h0_ rfl, bx_val_x (n := 9) (e := (10, 0)) h0_ rfl, bx_val_x (n := 10) (e := (11, 0)) h0_ rfl, bx_val_x (n := 11) (e := (9, 0)) h0_ rfl, bx_val_x (n := 12) (e := (10, 0)) h0_ rfl, bx_val_x (n := 13) (e := (8, 0)) h0_ rfl, bx_val_x (n := 14) (e := (16, 0)) h0_ rfl, bx_val_x (n := 15) (e := (17, 0)) h0_ rfl]
    exact g.2.2.1
  · show rxmPW2_14 S0 ws S' (bx_val [(0, 0), (0, 0), (0, 0), (0, 0), (0, 0), (0, 0), (0, 0), (0, 0), (8, 0), (10, 0), (11, 0), (9, 0), (10, 0), (8, 0), (16, 0), (17, 0)] r' 8) (bx_val [(0, 0), (0, 0), (0, 0), (0, 0), (0, 0), (0, 0), (0, 0), (0, 0), (8, 0), (10, 0), (11, 0), (9, 0), (10, 0), (8, 0), (16, 0), (17, 0)] r' 9) (bx_val [(0, 0), (0, 0), (0, 0), (0, 0), (0, 0), (0, 0), (0, 0), (0, 0), (8, 0), (10, 0), (11, 0), (9, 0), (10, 0), (8, 0), (16, 0), (17, 0)] r' 10) (bx_val [(0, 0), (0, 0), (0, 0), (0, 0), (0, 0), (0, 0), (0, 0), (0, 0), (8, 0), (10, 0), (11, 0), (9, 0), (10, 0), (8, 0), (16, 0), (17, 0)] r' 11) (bx_val [(0, 0), (0, 0), (0, 0), (0, 0), (0, 0), (0, 0), (0, 0), (0, 0), (8, 0), (10, 0), (11, 0), (9, 0), (10, 0), (8, 0), (16, 0), (17, 0)] r' 12) (bx_val [(0, 0), (0, 0), (0, 0), (0, 0), (0, 0), (0, 0), (0, 0), (0, 0), (8, 0), (10, 0), (11, 0), (9, 0), (10, 0), (8, 0), (16, 0), (17, 0)] r' 13) (bx_val [(0, 0), (0, 0), (0, 0), (0, 0), (0, 0), (0, 0), (0, 0), (0, 0), (8, 0), (10, 0), (11, 0), (9, 0), (10, 0), (8, 0), (16, 0), (17, 0)] r' 14) (bx_val [(0, 0), (0, 0), (0, 0), (0, 0), (0, 0), (0, 0), (0, 0), (0, 0), (8, 0), (10, 0), (11, 0), (9, 0), (10, 0), (8, 0), (16, 0), (17, 0)] r' 15) < rxmPW2_13 S0 ws S' (r 8) (r 9) (r 10) (r 11)
    rw [bx_val_x (n := 8) (e := (8, 0)) h0_ rfl, bx_val_x (n := 9) (e := (10, 0)) h0_ rfl, bx_val_x (n := 10) (e := (11, 0)) h0_ rfl, bx_val_x (n := 11) (e := (9, 0)) h0_ rfl, bx_val_x (n := 12) (e := (10, 0)) h0_ rfl, bx_val_x (n := 13) (e := (8, 0)) h0_ rfl, bx_val_x (n := 14) (e := (16, 0)) h0_ rfl, bx_val_x (n := 15) (e := (17, 0)) h0_ rfl, ← hr_ 8 (by decide), ← hr_ 9 (by decide), ← hr_ 10 (by decide), ← hr_ 11 (by decide)]
    exact g.2.2.2
theorem rxcPW2_13_3 {S0 : Nat → Int → Int} {ws : List Int} {S : Nat → Int → Int} {part n at_ c x12 x13 x14 : Int} (hP : rxPPW2 S0 ws) (hin : bx_same rxL (bx_mdl rxC240.2.2.1) S0 S) (I0 : bx_Inv rxL S) (hinv : rxIPW2_13 S0 ws S part n at_ c) (l8 : 0 ≤ part) (u8 : part ≤ 5) (l9 : 0 ≤ n) (u9 : n ≤ 432) (l10 : 0 ≤ at_) (u10 : at_ ≤ 110) (l11 : 0 ≤ c) (u11 : c ≤ 35) (l12 : (-2147483648) ≤ x12) (u12 : x12 ≤ 2147483647) (l13 : (-2147483648) ≤ x13) (u13 : x13 ≤ 2147483647) (l14 : 0 ≤ x14) (u14 : x14 ≤ 5) (f0 : x13 ≠ x14) (f1 : x12 ≠ (-1)) (e1 : S 496 at_ = x12) (e0 : S 496 at_ = x13) : (True) ∧ (True) ∧ rxIPW2_13 S0 ws S part n at_ (c + 1) ∧ rxmPW2_13 S0 ws S part n at_ (c + 1) < rxmPW2_13 S0 ws S part n at_ c := by
  obtain ⟨hI, hx⟩ := hinv
  obtain ⟨a_, b_, c_, d_⟩ := rxc240_13_3 hP hin I0 hI l8 u8 l9 u9 l10 u10 l11 u11 l12 u12 l13 u13 l14 u14 f0 f1 e1 e0
  exact ⟨a_, b_, ⟨c_, hx⟩, d_⟩
theorem rxgPW2_13_3 {X : (Nat → Int → Int) → Prop} {S0 : Nat → Int → Int} {ws : List Int} (hP : rxPPW2 S0 ws) : bx_obC rxL X S0 rxC240.2.2.1 (rxIPW2 S0 ws) (rxmPW2 S0 ws) 13 rxzPW2_13 rxoPW2_13_3 := by
  intro S S' r r' hinv hX hin hsm_ hseg
  obtain ⟨I0, I1, h0_, hr_, b_, f_, d_⟩ := bx_cl (evs := [(0, (0, 496), (10, 0), .inr (0, (13, 0))), (0, (0, 496), (10, 0), .inr (0, (12, 0)))]) (fvs := [(3, (13, 0), (14, 0), (0, 0)), (3, (12, 0), (0, (-1)), (0, 0))]) hseg (by decide +kernel) (by decide +kernel)
  have hinv : rxIPW2_13 S0 ws S (r 8) (r 9) (r 10) (r 11) := hinv
  rw [← hr_ 8 (by decide), ← hr_ 9 (by decide), ← hr_ 10 (by decide), ← hr_ 11 (by decide)] at hinv
  obtain ⟨⟨l8, u8⟩, ⟨l9, u9⟩, ⟨l10, u10⟩, ⟨l11, u11⟩, ⟨l12, u12⟩, ⟨l13, u13⟩, ⟨l14, u14⟩, -⟩ := b_
  obtain ⟨f0, f1, -⟩ := f_
  obtain ⟨e0, ⟨e1, w_⟩⟩ := d_
  subst w_
  have g := rxcPW2_13_3 hP hin I0 hinv l8 u8 l9 u9 l10 u10 l11 u11 l12 u12 l13 u13 l14 u14 f0 f1 e1 e0
  refine ⟨bx_narP_ok (l := []) g.1, bx_nfP_ok h0_ (fvs := []) (by decide +kernel) g.2.1, ?_, ?_⟩
  · show rxIPW2_13 S0 ws S' (bx_val [(0, 0), (0, 0), (0, 0), (0, 0), (0, 0), (0, 0), (0, 0), (0, 0), (8, 0), (9, 0), (10, 0), (11, 1)] r' 8) (bx_val [(0, 0), (0, 0), (0, 0), (0, 0), (0, 0), (0, 0), (0, 0), (0, 0), (8, 0), (9, 0), (10, 0), (11, 1)] r' 9) (bx_val [(0, 0), (0, 0), (0, 0), (0, 0), (0, 0), (0, 0), (0, 0), (0, 0), (8, 0), (9, 0), (10, 0), (11, 1)] r' 10) (bx_val [(0, 0), (0, 0), (0, 0), (0, 0), (0, 0), (0, 0), (0, 0), (0, 0), (8, 0), (9, 0), (10, 0), (11, 1)] r' 11)
    rw [bx_val_x (n := 8) (e := (8, 0)) h0_ rfl, bx_val_x (n := 9) (e := (9, 0)) h0_ rfl, bx_val_x (n := 10) (e := (10, 0)) h0_ rfl, bx_val_x (n := 11) (e := (11, 1)) h0_ rfl]
    exact g.2.2.1
  · show rxmPW2_13 S0 ws S' (bx_val [(0, 0), (0, 0), (0, 0), (0, 0), (0, 0), (0, 0), (0, 0), (0, 0), (8, 0), (9, 0), (10, 0), (11, 1)] r' 8) (bx_val [(0, 0), (0, 0), (0, 0), (0, 0), (0, 0), (0, 0), (0, 0), (0, 0), (8, 0), (9, 0), (10, 0), (11, 1)] r' 9) (bx_val [(0, 0), (0, 0), (0, 0), (0, 0), (0, 0), (0, 0), (0, 0), (0, 0), (8, 0), (9, 0), (10, 0), (11, 1)] r' 10) (bx_val [(0, 0), (0, 0), (0, 0), (0, 0), (0, 0), (0, 0), (0, 0), (0, 0), (8, 0), (9, 0), (10, 0), (11, 1)] r' 11) < rxmPW2_13 S0 ws S' (r 8) (r 9) (r 10) (r 11)
    rw [bx_val_x (n := 8) (e := (8, 0)) h0_ rfl, bx_val_x (n := 9) (e := (9, 0)) h0_ rfl, bx_val_x (n := 10) (e := (10, 0)) h0_ rfl, bx_val_x (n := 11) (e := (11, 1)) h0_ rfl, ← hr_ 8 (by decide), ← hr_ 9 (by decide), ← hr_ 10 (by decide), ← hr_ 11 (by decide)]
    exact g.2.2.2
theorem rxcPW2_13_4 {S0 : Nat → Int → Int} {ws : List Int} {S : Nat → Int → Int} {part n at_ c x12 x13 x14 x15 x16 x17 : Int} (hP : rxPPW2 S0 ws) (hin : bx_same rxL (bx_mdl rxC240.2.2.1) S0 S) (I0 : bx_Inv rxL S) (hinv : rxIPW2_13 S0 ws S part n at_ c) (l8 : 0 ≤ part) (u8 : part ≤ 5) (l9 : 0 ≤ n) (u9 : n ≤ 432) (l10 : 0 ≤ at_) (u10 : at_ ≤ 110) (l11 : 0 ≤ c) (u11 : c ≤ 35) (l12 : (-1) ≤ x12) (u12 : x12 ≤ (-1)) (l13 : (-2147483648) ≤ x13) (u13 : x13 ≤ 2147483647) (l14 : 0 ≤ x14) (u14 : x14 ≤ 5) (l15 : 0 ≤ x15) (u15 : x15 ≤ 5) (l16 : 0 ≤ x16) (u16 : x16 ≤ 5) (l17 : 0 ≤ x17) (u17 : x17 ≤ 5) (f0 : x14 = x15) (f1 : x13 ≠ (-1)) (e2 : S 496 at_ = x12) (e1 : S 496 (at_ + 1) = x13) (e0 : S 496 (at_ + 1) = x14) : ((0 ≤ n ∧ n ≤ 431) ∧ True) ∧ (True) ∧ rxIPW2_14 S0 ws S part at_ c n at_ part x16 x17 ∧ rxmPW2_14 S0 ws S part at_ c n at_ part x16 x17 < rxmPW2_13 S0 ws S part n at_ c := by
  obtain ⟨hI, hx⟩ := hinv
  obtain ⟨a_, b_, c_, d_⟩ := rxc240_13_4 hP hin I0 hI l8 u8 l9 u9 l10 u10 l11 u11 l12 u12 l13 u13 l14 u14 l15 u15 l16 u16 l17 u17 f0 f1 e2 e1 e0
  exact ⟨a_, b_, ⟨c_, hx⟩, d_⟩
theorem rxgPW2_13_4 {X : (Nat → Int → Int) → Prop} {S0 : Nat → Int → Int} {ws : List Int} (hP : rxPPW2 S0 ws) : bx_obC rxL X S0 rxC240.2.2.1 (rxIPW2 S0 ws) (rxmPW2 S0 ws) 13 rxzPW2_13 rxoPW2_13_4 := by
  intro S S' r r' hinv hX hin hsm_ hseg
  obtain ⟨I0, I1, h0_, hr_, b_, f_, d_⟩ := bx_cl (evs := [(0, (0, 496), (10, 1), .inr (0, (14, 0))), (0, (0, 496), (10, 1), .inr (0, (13, 0))), (0, (0, 496), (10, 0), .inr (0, (12, 0)))]) (fvs := [(2, (14, 0), (15, 0), (0, 0)), (3, (13, 0), (0, (-1)), (0, 0))]) hseg (by decide +kernel) (by decide +kernel)
  have hinv : rxIPW2_13 S0 ws S (r 8) (r 9) (r 10) (r 11) := hinv
  rw [← hr_ 8 (by decide), ← hr_ 9 (by decide), ← hr_ 10 (by decide), ← hr_ 11 (by decide)] at hinv
  obtain ⟨⟨l8, u8⟩, ⟨l9, u9⟩, ⟨l10, u10⟩, ⟨l11, u11⟩, ⟨l12, u12⟩, ⟨l13, u13⟩, ⟨l14, u14⟩, ⟨l15, u15⟩, ⟨l16, u16⟩, ⟨l17, u17⟩, -⟩ := b_
  obtain ⟨f0, f1, -⟩ := f_
  obtain ⟨e0, ⟨e1, ⟨e2, w_⟩⟩⟩ := d_
  subst w_
  have g := rxcPW2_13_4 hP hin I0 hinv l8 u8 l9 u9 l10 u10 l11 u11 l12 u12 l13 u13 l14 u14 l15 u15 l16 u16 l17 u17 f0 f1 e2 e1 e0
  refine ⟨bx_narP_ok (l := [(9, 0, 431)]) g.1, bx_nfP_ok h0_ (fvs := []) (by decide +kernel) g.2.1, ?_, ?_⟩
  · show rxIPW2_14 S0 ws S' (bx_val [(0, 0), (0, 0), (0, 0), (0, 0), (0, 0), (0, 0), (0, 0), (0, 0), (8, 0), (10, 0), (11, 0), (9, 0), (10, 0), (8, 0), (16, 0), (17, 0)] r' 8) (bx_val [(0, 0), (0, 0), (0, 0), (0, 0), (0, 0), (0, 0), (0, 0), (0, 0), (8, 0), (10, 0), (11, 0), (9, 0), (10, 0), (8, 0), (16, 0), (17, 0)] r' 9) (bx_val [(0, 0), (0, 0), (0, 0), (0, 0), (0, 0), (0, 0), (0, 0), (0, 0), (8, 0), (10, 0), (11, 0), (9, 0), (10, 0), (8, 0), (16, 0), (17, 0)] r' 10) (bx_val [(0, 0), (0, 0), (0, 0), (0, 0), (0, 0), (0, 0), (0, 0), (0, 0), (8, 0), (10, 0), (11, 0), (9, 0), (10, 0), (8, 0), (16, 0), (17, 0)] r' 11) (bx_val [(0, 0), (0, 0), (0, 0), (0, 0), (0, 0), (0, 0), (0, 0), (0, 0), (8, 0), (10, 0), (11, 0), (9, 0), (10, 0), (8, 0), (16, 0), (17, 0)] r' 12) (bx_val [(0, 0), (0, 0), (0, 0), (0, 0), (0, 0), (0, 0), (0, 0), (0, 0), (8, 0), (10, 0), (11, 0), (9, 0), (10, 0), (8, 0), (16, 0), (17, 0)] r' 13) (bx_val [(0, 0), (0, 0), (0, 0), (0, 0), (0, 0), (0, 0), (0, 0), (0, 0), (8, 0), (10, 0), (11, 0), (9, 0), (10, 0), (8, 0), (16, 0), (17, 0)] r' 14) (bx_val [(0, 0), (0, 0), (0, 0), (0, 0), (0, 0), (0, 0), (0, 0), (0, 0), (8, 0), (10, 0), (11, 0), (9, 0), (10, 0), (8, 0), (16, 0), (17, 0)] r' 15)
    rw [bx_val_x (n := 8) (e := (8, 0)) h0_ rfl, bx_val_x (n := 9) (e := (10, 0)) h0_ rfl, bx_val_x (n := 10) (e := (11, 0)) h0_ rfl, bx_val_x (n := 11) (e := (9, 0)) h0_ rfl, bx_val_x (n := 12) (e := (10, 0)) h0_ rfl, bx_val_x (n := 13) (e := (8, 0)) h0_ rfl, bx_val_x (n := 14) (e := (16, 0)) h0_ rfl, bx_val_x (n := 15) (e := (17, 0)) h0_ rfl]
    exact g.2.2.1
  · show rxmPW2_14 S0 ws S' (bx_val [(0, 0), (0, 0), (0, 0), (0, 0), (0, 0), (0, 0), (0, 0), (0, 0), (8, 0), (10, 0), (11, 0), (9, 0), (10, 0), (8, 0), (16, 0), (17, 0)] r' 8) (bx_val [(0, 0), (0, 0), (0, 0), (0, 0), (0, 0), (0, 0), (0, 0), (0, 0), (8, 0), (10, 0), (11, 0), (9, 0), (10, 0), (8, 0), (16, 0), (17, 0)] r' 9) (bx_val [(0, 0), (0, 0), (0, 0), (0, 0), (0, 0), (0, 0), (0, 0), (0, 0), (8, 0), (10, 0), (11, 0), (9, 0), (10, 0), (8, 0), (16, 0), (17, 0)] r' 10) (bx_val [(0, 0), (0, 0), (0, 0), (0, 0), (0, 0), (0, 0), (0, 0), (0, 0), (8, 0), (10, 0), (11, 0), (9, 0), (10, 0), (8, 0), (16, 0), (17, 0)] r' 11) (bx_val [(0, 0), (0, 0), (0, 0), (0, 0), (0, 0), (0, 0), (0, 0), (0, 0), (8, 0), (10, 0), (11, 0), (9, 0), (10, 0), (8, 0), (16, 0), (17, 0)] r' 12) (bx_val [(0, 0), (0, 0), (0, 0), (0, 0), (0, 0), (0, 0), (0, 0), (0, 0), (8, 0), (10, 0), (11, 0), (9, 0), (10, 0), (8, 0), (16, 0), (17, 0)] r' 13) (bx_val [(0, 0), (0, 0), (0, 0), (0, 0), (0, 0), (0, 0), (0, 0), (0, 0), (8, 0), (10, 0), (11, 0), (9, 0), (10, 0), (8, 0), (16, 0), (17, 0)] r' 14) (bx_val [(0, 0), (0, 0), (0, 0), (0, 0), (0, 0), (0, 0), (0, 0), (0, 0), (8, 0), (10, 0), (11, 0), (9, 0), (10, 0), (8, 0), (16, 0), (17, 0)] r' 15) < rxmPW2_13 S0 ws S' (r 8) (r 9) (r 10) (r 11)
    rw [bx_val_x (n := 8) (e := (8, 0)) h0_ rfl, bx_val_x (n := 9) (e := (10, 0)) h0_ rfl, bx_val_x (n := 10) (e := (11, 0)) h0_ rfl, bx_val_x (n := 11) (e := (9, 0)) h0_ rfl, bx_val_x (n := 12) (e := (10, 0)) h0_ rfl, bx_val_x (n := 13) (e := (8, 0)) h0_ rfl, bx_val_x (n := 14) (e := (16, 0)) h0_ rfl, bx_val_x (n := 15) (e := (17, 0)) h0_ rfl, ← hr_ 8 (by decide), ← hr_ 9 (by decide), ← hr_ 10 (by decide), ← hr_ 11 (by decide)]
    exact g.2.2.2
theorem rxcPW2_13_5 {S0 : Nat → Int → Int} {ws : List Int} {S : Nat → Int → Int} {part n at_ c x12 x13 x14 x15 : Int} (hP : rxPPW2 S0 ws) (hin : bx_same rxL (bx_mdl rxC240.2.2.1) S0 S) (I0 : bx_Inv rxL S) (hinv : rxIPW2_13 S0 ws S part n at_ c) (l8 : 0 ≤ part) (u8 : part ≤ 5) (l9 : 0 ≤ n) (u9 : n ≤ 432) (l10 : 0 ≤ at_) (u10 : at_ ≤ 110) (l11 : 0 ≤ c) (u11 : c ≤ 35) (l12 : (-1) ≤ x12) (u12 : x12 ≤ (-1)) (l13 : (-2147483648) ≤ x13) (u13 : x13 ≤ 2147483647) (l14 : (-2147483648) ≤ x14) (u14 : x14 ≤ 2147483647) (l15 : 0 ≤ x15) (u15 : x15 ≤ 5) (f0 : x14 ≠ x15) (f1 : x13 ≠ (-1)) (e2 : S 496 at_ = x12) (e1 : S 496 (at_ + 1) = x13) (e0 : S 496 (at_ + 1) = x14) : (True) ∧ (True) ∧ rxIPW2_13 S0 ws S part n at_ (c + 1) ∧ rxmPW2_13 S0 ws S part n at_ (c + 1) < rxmPW2_13 S0 ws S part n at_ c := by
  obtain ⟨hI, hx⟩ := hinv
  obtain ⟨a_, b_, c_, d_⟩ := rxc240_13_5 hP hin I0 hI l8 u8 l9 u9 l10 u10 l11 u11 l12 u12 l13 u13 l14 u14 l15 u15 f0 f1 e2 e1 e0
  exact ⟨a_, b_, ⟨c_, hx⟩, d_⟩
theorem rxgPW2_13_5 {X : (Nat → Int → Int) → Prop} {S0 : Nat → Int → Int} {ws : List Int} (hP : rxPPW2 S0 ws) : bx_obC rxL X S0 rxC240.2.2.1 (rxIPW2 S0 ws) (rxmPW2 S0 ws) 13 rxzPW2_13 rxoPW2_13_5 := by
  intro S S' r r' hinv hX hin hsm_ hseg
  obtain ⟨I0, I1, h0_, hr_, b_, f_, d_⟩ := bx_cl (evs := [(0, (0, 496), (10, 1), .inr (0, (14, 0))), (0, (0, 496), (10, 1), .inr (0, (13, 0))), (0, (0, 496), (10, 0), .inr (0, (12, 0)))]) (fvs := [(3, (14, 0), (15, 0), (0, 0)), (3, (13, 0), (0, (-1)), (0, 0))]) hseg (by decide +kernel) (by decide +kernel)
  have hinv : rxIPW2_13 S0 ws S (r 8) (r 9) (r 10) (r 11) := hinv
  rw [← hr_ 8 (by decide), ← hr_ 9 (by decide), ← hr_ 10 (by decide), ← hr_ 11 (by decide)] at hinv
  obtain ⟨⟨l8, u8⟩, ⟨l9, u9⟩, ⟨l10, u10⟩, ⟨l11, u11⟩, ⟨l12, u12⟩, ⟨l13, u13⟩, ⟨l14, u14⟩, ⟨l15, u15⟩, -⟩ := b_
  obtain ⟨f0, f1, -⟩ := f_
  obtain ⟨e0, ⟨e1, ⟨e2, w_⟩⟩⟩ := d_
  subst w_
  have g := rxcPW2_13_5 hP hin I0 hinv l8 u8 l9 u9 l10 u10 l11 u11 l12 u12 l13 u13 l14 u14 l15 u15 f0 f1 e2 e1 e0
  refine ⟨bx_narP_ok (l := []) g.1, bx_nfP_ok h0_ (fvs := []) (by decide +kernel) g.2.1, ?_, ?_⟩
  · show rxIPW2_13 S0 ws S' (bx_val [(0, 0), (0, 0), (0, 0), (0, 0), (0, 0), (0, 0), (0, 0), (0, 0), (8, 0), (9, 0), (10, 0), (11, 1)] r' 8) (bx_val [(0, 0), (0, 0), (0, 0), (0, 0), (0, 0), (0, 0), (0, 0), (0, 0), (8, 0), (9, 0), (10, 0), (11, 1)] r' 9) (bx_val [(0, 0), (0, 0), (0, 0), (0, 0), (0, 0), (0, 0), (0, 0), (0, 0), (8, 0), (9, 0), (10, 0), (11, 1)] r' 10) (bx_val [(0, 0), (0, 0), (0, 0), (0, 0), (0, 0), (0, 0), (0, 0), (0, 0), (8, 0), (9, 0), (10, 0), (11, 1)] r' 11)
    rw [bx_val_x (n := 8) (e := (8, 0)) h0_ rfl, bx_val_x (n := 9) (e := (9, 0)) h0_ rfl, bx_val_x (n := 10) (e := (10, 0)) h0_ rfl, bx_val_x (n := 11) (e := (11, 1)) h0_ rfl]
    exact g.2.2.1
  · show rxmPW2_13 S0 ws S' (bx_val [(0, 0), (0, 0), (0, 0), (0, 0), (0, 0), (0, 0), (0, 0), (0, 0), (8, 0), (9, 0), (10, 0), (11, 1)] r' 8) (bx_val [(0, 0), (0, 0), (0, 0), (0, 0), (0, 0), (0, 0), (0, 0), (0, 0), (8, 0), (9, 0), (10, 0), (11, 1)] r' 9) (bx_val [(0, 0), (0, 0), (0, 0), (0, 0), (0, 0), (0, 0), (0, 0), (0, 0), (8, 0), (9, 0), (10, 0), (11, 1)] r' 10) (bx_val [(0, 0), (0, 0), (0, 0), (0, 0), (0, 0), (0, 0), (0, 0), (0, 0), (8, 0), (9, 0), (10, 0), (11, 1)] r' 11) < rxmPW2_13 S0 ws S' (r 8) (r 9) (r 10) (r 11)
    rw [bx_val_x (n := 8) (e := (8, 0)) h0_ rfl, bx_val_x (n := 9) (e := (9, 0)) h0_ rfl, bx_val_x (n := 10) (e := (10, 0)) h0_ rfl, bx_val_x (n := 11) (e := (11, 1)) h0_ rfl, ← hr_ 8 (by decide), ← hr_ 9 (by decide), ← hr_ 10 (by decide), ← hr_ 11 (by decide)]
    exact g.2.2.2
theorem rxcPW2_13_6 {S0 : Nat → Int → Int} {ws : List Int} {S : Nat → Int → Int} {part n at_ c x12 x13 x14 x15 : Int} (hP : rxPPW2 S0 ws) (hin : bx_same rxL (bx_mdl rxC240.2.2.1) S0 S) (I0 : bx_Inv rxL S) (hinv : rxIPW2_13 S0 ws S part n at_ c) (l8 : 0 ≤ part) (u8 : part ≤ 5) (l9 : 0 ≤ n) (u9 : n ≤ 432) (l10 : 0 ≤ at_) (u10 : at_ ≤ 110) (l11 : 0 ≤ c) (u11 : c ≤ 35) (l12 : (-1) ≤ x12) (u12 : x12 ≤ (-1)) (l13 : (-1) ≤ x13) (u13 : x13 ≤ (-1)) (l14 : 0 ≤ x14) (u14 : x14 ≤ 5) (l15 : 0 ≤ x15) (u15 : x15 ≤ 5) (e1 : S 496 at_ = x12) (e0 : S 496 (at_ + 1) = x13) : ((0 ≤ n ∧ n ≤ 431) ∧ True) ∧ (True) ∧ rxIPW2_14 S0 ws S part at_ c n at_ part x14 x15 ∧ rxmPW2_14 S0 ws S part at_ c n at_ part x14 x15 < rxmPW2_13 S0 ws S part n at_ c := by
  obtain ⟨hI, hx⟩ := hinv
  obtain ⟨a_, b_, c_, d_⟩ := rxc240_13_6 hP hin I0 hI l8 u8 l9 u9 l10 u10 l11 u11 l12 u12 l13 u13 l14 u14 l15 u15 e1 e0
  exact ⟨a_, b_, ⟨c_, hx⟩, d_⟩
theorem rxgPW2_13_6 {X : (Nat → Int → Int) → Prop} {S0 : Nat → Int → Int} {ws : List Int} (hP : rxPPW2 S0 ws) : bx_obC rxL X S0 rxC240.2.2.1 (rxIPW2 S0 ws) (rxmPW2 S0 ws) 13 rxzPW2_13 rxoPW2_13_6 := by
  intro S S' r r' hinv hX hin hsm_ hseg
  obtain ⟨I0, I1, h0_, hr_, b_, f_, d_⟩ := bx_cl (evs := [(0, (0, 496), (10, 1), .inr (0, (13, 0))), (0, (0, 496), (10, 0), .inr (0, (12, 0)))]) (fvs := []) hseg (by decide +kernel) (by decide +kernel)
  have hinv : rxIPW2_13 S0 ws S (r 8) (r 9) (r 10) (r 11) := hinv
  rw [← hr_ 8 (by decide), ← hr_ 9 (by decide), ← hr_ 10 (by decide), ← hr_ 11 (by decide)] at hinv
  obtain ⟨⟨l8, u8⟩, ⟨l9, u9⟩, ⟨l10, u10⟩, ⟨l11, u11⟩, ⟨l12, u12⟩, ⟨l13, u13⟩, ⟨l14, u14⟩, ⟨l15, u15⟩, -⟩ := b_
  obtain ⟨e0, ⟨e1, w_⟩⟩ := d_
  subst w_
  have g := rxcPW2_13_6 hP hin I0 hinv l8 u8 l9 u9 l10 u10 l11 u11 l12 u12 l13 u13 l14 u14 l15 u15 e1 e0
  refine ⟨bx_narP_ok (l := [(9, 0, 431)]) g.1, bx_nfP_ok h0_ (fvs := []) (by decide +kernel) g.2.1, ?_, ?_⟩
  · show rxIPW2_14 S0 ws S' (bx_val [(0, 0), (0, 0), (0, 0), (0, 0), (0, 0), (0, 0), (0, 0), (0, 0), (8, 0), (10, 0), (11, 0), (9, 0), (10, 0), (8, 0), (14, 0), (15, 0)] r' 8) (bx_val [(0, 0), (0, 0), (0, 0), (0, 0), (0, 0), (0, 0), (0, 0), (0, 0), (8, 0), (10, 0), (11, 0), (9, 0), (10, 0), (8, 0), (14, 0), (15, 0)] r' 9) (bx_val [(0, 0), (0, 0), (0, 0), (0, 0), (0, 0), (0, 0), (0, 0), (0, 0), (8, 0), (10, 0), (11, 0), (9, 0), (10, 0), (8, 0), (14, 0), (15, 0)] r' 10) (bx_val [(0, 0), (0, 0), (0, 0), (0, 0), (0, 0), (0, 0), (0, 0), (0, 0), (8, 0), (10, 0), (11, 0), (9, 0), (10, 0), (8, 0), (14, 0), (15, 0)] r' 11) (bx_val [(0, 0), (0, 0), (0, 0), (0, 0), (0, 0), (0, 0), (0, 0), (0, 0), (8, 0), (10, 0), (11, 0), (9, 0), (10, 0), (8, 0), (14, 0), (15, 0)] r' 12) (bx_val [(0, 0), (0, 0), (0, 0), (0, 0), (0, 0), (0, 0), (0, 0), (0, 0), (8, 0), (10, 0), (11, 0), (9, 0), (10, 0), (8, 0), (14, 0), (15, 0)] r' 13) (bx_val [(0, 0), (0, 0), (0, 0), (0, 0), (0, 0), (0, 0), (0, 0), (0, 0), (8, 0), (10, 0), (11, 0), (9, 0), (10, 0), (8, 0), (14, 0), (15, 0)] r' 14) (bx_val [(0, 0), (0, 0), (0, 0), (0, 0), (0, 0), (0, 0), (0, 0), (0, 0), (8, 0), (10, 0), (11, 0), (9, 0), (10, 0), (8, 0), (14, 0), (15, 0)] r' 15)
    rw [bx_val_x (n := 8) (e := (8, 0)) h0_ rfl, bx_val_x (n := 9) (e := (10, 0)) h0_ rfl, bx_val_x (n := 10) (e := (11, 0)) h0_ rfl, bx_val_x (n := 11) (e := (9, 0)) h0_ rfl, bx_val_x (n := 12) (e := (10, 0)) h0_ rfl, bx_val_x (n := 13) (e := (8, 0)) h0_ rfl, bx_val_x (n := 14) (e := (14, 0)) h0_ rfl, bx_val_x (n := 15) (e := (15, 0)) h0_ rfl]
    exact g.2.2.1
  · show rxmPW2_14 S0 ws S' (bx_val [(0, 0), (0, 0), (0, 0), (0, 0), (0, 0), (0, 0), (0, 0), (0, 0), (8, 0), (10, 0), (11, 0), (9, 0), (10, 0), (8, 0), (14, 0), (15, 0)] r' 8) (bx_val [(0, 0), (0, 0), (0, 0), (0, 0), (0, 0), (0, 0), (0, 0), (0, 0), (8, 0), (10, 0), (11, 0), (9, 0), (10, 0), (8, 0), (14, 0), (15, 0)] r' 9) (bx_val [(0, 0), (0, 0), (0, 0), (0, 0), (0, 0), (0, 0), (0, 0), (0, 0), (8, 0), (10, 0), (11, 0), (9, 0), (10, 0), (8, 0), (14, 0), (15, 0)] r' 10) (bx_val [(0, 0), (0, 0), (0, 0), (0, 0), (0, 0), (0, 0), (0, 0), (0, 0), (8, 0), (10, 0), (11, 0), (9, 0), (10, 0), (8, 0), (14, 0), (15, 0)] r' 11) (bx_val [(0, 0), (0, 0), (0, 0), (0, 0), (0, 0), (0, 0), (0, 0), (0, 0), (8, 0), (10, 0), (11, 0), (9, 0), (10, 0), (8, 0), (14, 0), (15, 0)] r' 12) (bx_val [(0, 0), (0, 0), (0, 0), (0, 0), (0, 0), (0, 0), (0, 0), (0, 0), (8, 0), (10, 0), (11, 0), (9, 0), (10, 0), (8, 0), (14, 0), (15, 0)] r' 13) (bx_val [(0, 0), (0, 0), (0, 0), (0, 0), (0, 0), (0, 0), (0, 0), (0, 0), (8, 0), (10, 0), (11, 0), (9, 0), (10, 0), (8, 0), (14, 0), (15, 0)] r' 14) (bx_val [(0, 0), (0, 0), (0, 0), (0, 0), (0, 0), (0, 0), (0, 0), (0, 0), (8, 0), (10, 0), (11, 0), (9, 0), (10, 0), (8, 0), (14, 0), (15, 0)] r' 15) < rxmPW2_13 S0 ws S' (r 8) (r 9) (r 10) (r 11)
    rw [bx_val_x (n := 8) (e := (8, 0)) h0_ rfl, bx_val_x (n := 9) (e := (10, 0)) h0_ rfl, bx_val_x (n := 10) (e := (11, 0)) h0_ rfl, bx_val_x (n := 11) (e := (9, 0)) h0_ rfl, bx_val_x (n := 12) (e := (10, 0)) h0_ rfl, bx_val_x (n := 13) (e := (8, 0)) h0_ rfl, bx_val_x (n := 14) (e := (14, 0)) h0_ rfl, bx_val_x (n := 15) (e := (15, 0)) h0_ rfl, ← hr_ 8 (by decide), ← hr_ 9 (by decide), ← hr_ 10 (by decide), ← hr_ 11 (by decide)]
    exact g.2.2.2
theorem rxcPW2_13_7 {S0 : Nat → Int → Int} {ws : List Int} {S : Nat → Int → Int} {part n at_ c : Int} (hP : rxPPW2 S0 ws) (hin : bx_same rxL (bx_mdl rxC240.2.2.1) S0 S) (I0 : bx_Inv rxL S) (hinv : rxIPW2_13 S0 ws S part n at_ c) (l8 : 0 ≤ part) (u8 : part ≤ 5) (l9 : 0 ≤ n) (u9 : n ≤ 432) (l10 : 0 ≤ at_) (u10 : at_ ≤ 110) (l11 : 36 ≤ c) (u11 : c ≤ 36) : (True) ∧ (True) ∧ rxIPW2_12 S0 ws S part n (at_ + 10) ∧ rxmPW2_12 S0 ws S part n (at_ + 10) < rxmPW2_13 S0 ws S part n at_ c := by
  obtain ⟨hI, hx⟩ := hinv
  obtain ⟨a_, b_, c_, d_⟩ := rxc240_13_7 hP hin I0 hI l8 u8 l9 u9 l10 u10 l11 u11
  exact ⟨a_, b_, ⟨c_, hx⟩, d_⟩
theorem rxgPW2_13_7 {X : (Nat → Int → Int) → Prop} {S0 : Nat → Int → Int} {ws : List Int} (hP : rxPPW2 S0 ws) : bx_obC rxL X S0 rxC240.2.2.1 (rxIPW2 S0 ws) (rxmPW2 S0 ws) 13 rxzPW2_13 rxoPW2_13_7 := by
  intro S S' r r' hinv hX hin hsm_ hseg
  obtain ⟨I0, I1, h0_, hr_, b_, f_, d_⟩ := bx_cl (evs := []) (fvs := []) hseg (by decide +kernel) (by decide +kernel)
  have hinv : rxIPW2_13 S0 ws S (r 8) (r 9) (r 10) (r 11) := hinv
  rw [← hr_ 8 (by decide), ← hr_ 9 (by decide), ← hr_ 10 (by decide), ← hr_ 11 (by decide)] at hinv
  obtain ⟨⟨l8, u8⟩, ⟨l9, u9⟩, ⟨l10, u10⟩, ⟨l11, u11⟩, -⟩ := b_
  have w_ := d_
  subst w_
  have g := rxcPW2_13_7 hP hin I0 hinv l8 u8 l9 u9 l10 u10 l11 u11
  refine ⟨bx_narP_ok (l := []) g.1, bx_nfP_ok h0_ (fvs := []) (by decide +kernel) g.2.1, ?_, ?_⟩
  · show rxIPW2_12 S0 ws S' (bx_val [(0, 0), (0, 0), (0, 0), (0, 0), (0, 0), (0, 0), (0, 0), (0, 0), (8, 0), (9, 0), (10, 10)] r' 8) (bx_val [(0, 0), (0, 0), (0, 0), (0, 0), (0, 0), (0, 0), (0, 0), (0, 0), (8, 0), (9, 0), (10, 10)] r' 9) (bx_val [(0, 0), (0, 0), (0, 0), (0, 0), (0, 0), (0, 0), (0, 0), (0, 0), (8, 0), (9, 0), (10, 10)] r' 10)
    rw [bx_val_x (n := 8) (e := (8, 0)) h0_ rfl, bx_val_x (n := 9) (e := (9, 0)) h0_ rfl, bx_val_x (n := 10) (e := (10, 10)) h0_ rfl]
    exact g.2.2.1
  · show rxmPW2_12 S0 ws S' (bx_val [(0, 0), (0, 0), (0, 0), (0, 0), (0, 0), (0, 0), (0, 0), (0, 0), (8, 0), (9, 0), (10, 10)] r' 8) (bx_val [(0, 0), (0, 0), (0, 0), (0, 0), (0, 0), (0, 0), (0, 0), (0, 0), (8, 0), (9, 0), (10, 10)] r' 9) (bx_val [(0, 0), (0, 0), (0, 0), (0, 0), (0, 0), (0, 0), (0, 0), (0, 0), (8, 0), (9, 0), (10, 10)] r' 10) < rxmPW2_13 S0 ws S' (r 8) (r 9) (r 10) (r 11)
    rw [bx_val_x (n := 8) (e := (8, 0)) h0_ rfl, bx_val_x (n := 9) (e := (9, 0)) h0_ rfl, bx_val_x (n := 10) (e := (10, 10)) h0_ rfl, ← hr_ 8 (by decide), ← hr_ 9 (by decide), ← hr_ 10 (by decide), ← hr_ 11 (by decide)]
    exact g.2.2.2
theorem rxcPW2_15_0 {S0 : Nat → Int → Int} {ws : List Int} {S : Nat → Int → Int} {part at_ c n a_ pt d6 m6 so : Int} (hP : rxPPW2 S0 ws) (hin : bx_same rxL (bx_mdl rxC240.2.2.1) S0 S) (I0 : bx_Inv rxL S) (hinv : rxIPW2_15 S0 ws S part at_ c n a_ pt d6 m6 so) (l8 : 0 ≤ part) (u8 : part ≤ 5) (l9 : 0 ≤ at_) (u9 : at_ ≤ 110) (l10 : 0 ≤ c) (u10 : c ≤ 35) (l11 : 0 ≤ n) (u11 : n ≤ 431) (l12 : 0 ≤ a_) (u12 : a_ ≤ 110) (l13 : 0 ≤ pt) (u13 : pt ≤ 5) (l14 : 0 ≤ d6) (u14 : d6 ≤ 5) (l15 : 0 ≤ m6) (u15 : m6 ≤ 5) (l16 : 1 ≤ so) (u16 : so ≤ 1) (f0 : so ≠ 0) : (True) ∧ (True) ∧ rxIPW2_13 S0 ws S part (n + 1) at_ (c + 1) ∧ rxmPW2_13 S0 ws S part (n + 1) at_ (c + 1) < rxmPW2_15 S0 ws S part at_ c n a_ pt d6 m6 so := by
  obtain ⟨hI, hx⟩ := hinv
  obtain ⟨a_, b_, c_, d_⟩ := rxc240_15_0 hP hin I0 hI l8 u8 l9 u9 l10 u10 l11 u11 l12 u12 l13 u13 l14 u14 l15 u15 l16 u16 f0
  exact ⟨a_, b_, ⟨c_, hx⟩, d_⟩
theorem rxgPW2_15_0 {X : (Nat → Int → Int) → Prop} {S0 : Nat → Int → Int} {ws : List Int} (hP : rxPPW2 S0 ws) : bx_obC rxL X S0 rxC240.2.2.1 (rxIPW2 S0 ws) (rxmPW2 S0 ws) 15 rxzPW2_15 rxoPW2_15_0 := by
  intro S S' r r' hinv hX hin hsm_ hseg
  obtain ⟨I0, I1, h0_, hr_, b_, f_, d_⟩ := bx_cl (evs := []) (fvs := [(3, (16, 0), (0, 0), (0, 0))]) hseg (by decide +kernel) (by decide +kernel)
  have hinv : rxIPW2_15 S0 ws S (r 8) (r 9) (r 10) (r 11) (r 12) (r 13) (r 14) (r 15) (r 16) := hinv
  rw [← hr_ 8 (by decide), ← hr_ 9 (by decide), ← hr_ 10 (by decide), ← hr_ 11 (by decide), ← hr_ 12 (by decide), ← hr_ 13 (by decide), ← hr_ 14 (by decide), ← hr_ 15 (by decide), ← hr_ 16 (by decide)] at hinv
  obtain ⟨⟨l8, u8⟩, ⟨l9, u9⟩, ⟨l10, u10⟩, ⟨l11, u11⟩, ⟨l12, u12⟩, ⟨l13, u13⟩, ⟨l14, u14⟩, ⟨l15, u15⟩, ⟨l16, u16⟩, -⟩ := b_
  obtain ⟨f0, -⟩ := f_
  have w_ := d_
  subst w_
  have g := rxcPW2_15_0 hP hin I0 hinv l8 u8 l9 u9 l10 u10 l11 u11 l12 u12 l13 u13 l14 u14 l15 u15 l16 u16 f0
  refine ⟨bx_narP_ok (l := []) g.1, bx_nfP_ok h0_ (fvs := []) (by decide +kernel) g.2.1, ?_, ?_⟩
  · show rxIPW2_13 S0 ws S' (bx_val [(0, 0), (0, 0), (0, 0), (0, 0), (0, 0), (0, 0), (0, 0), (0, 0), (8, 0), (11, 1), (9, 0), (10, 1)] r' 8) (bx_val [(0, 0), (0, 0), (0, 0), (0, 0), (0, 0), (0, 0), (0, 0), (0, 0), (8, 0), (11, 1), (9, 0), (10, 1)] r' 9) (bx_val [(0, 0), (0, 0), (0, 0), (0, 0), (0, 0), (0, 0), (0, 0), (0, 0), (8, 0), (11, 1), (9, 0), (10, 1)] r' 10) (bx_val [(0, 0), (0, 0), (0, 0), (0, 0), (0, 0), (0, 0), (0, 0), (0, 0), (8, 0), (11, 1), (9, 0), (10, 1)] r' 11)
    rw [bx_val_x (n := 8) (e := (8, 0)) h0_ rfl, bx_val_x (n := 9) (e := (11, 1)) h0_ rfl, bx_val_x (n := 10) (e := (9, 0)) h0_ rfl, bx_val_x (n := 11) (e := (10, 1)) h0_ rfl]
    exact g.2.2.1
  · show rxmPW2_13 S0 ws S' (bx_val [(0, 0), (0, 0), (0, 0), (0, 0), (0, 0), (0, 0), (0, 0), (0, 0), (8, 0), (11, 1), (9, 0), (10, 1)] r' 8) (bx_val [(0, 0), (0, 0), (0, 0), (0, 0), (0, 0), (0, 0), (0, 0), (0, 0), (8, 0), (11, 1), (9, 0), (10, 1)] r' 9) (bx_val [(0, 0), (0, 0), (0, 0), (0, 0), (0, 0), (0, 0), (0, 0), (0, 0), (8, 0), (11, 1), (9, 0), (10, 1)] r' 10) (bx_val [(0, 0), (0, 0), (0, 0), (0, 0), (0, 0), (0, 0), (0, 0), (0, 0), (8, 0), (11, 1), (9, 0), (10, 1)] r' 11) < rxmPW2_15 S0 ws S' (r 8) (r 9) (r 10) (r 11) (r 12) (r 13) (r 14) (r 15) (r 16)
    rw [bx_val_x (n := 8) (e := (8, 0)) h0_ rfl, bx_val_x (n := 9) (e := (11, 1)) h0_ rfl, bx_val_x (n := 10) (e := (9, 0)) h0_ rfl, bx_val_x (n := 11) (e := (10, 1)) h0_ rfl, ← hr_ 8 (by decide), ← hr_ 9 (by decide), ← hr_ 10 (by decide), ← hr_ 11 (by decide), ← hr_ 12 (by decide), ← hr_ 13 (by decide), ← hr_ 14 (by decide), ← hr_ 15 (by decide), ← hr_ 16 (by decide)]
    exact g.2.2.2
theorem rxcPW2_15_1 {S0 : Nat → Int → Int} {ws : List Int} {S : Nat → Int → Int} {part at_ c n a_ pt d6 m6 so : Int} (hP : rxPPW2 S0 ws) (hin : bx_same rxL (bx_mdl rxC240.2.2.1) S0 S) (I0 : bx_Inv rxL S) (hinv : rxIPW2_15 S0 ws S part at_ c n a_ pt d6 m6 so) (l8 : 0 ≤ part) (u8 : part ≤ 5) (l9 : 0 ≤ at_) (u9 : at_ ≤ 110) (l10 : 0 ≤ c) (u10 : c ≤ 35) (l11 : 0 ≤ n) (u11 : n ≤ 431) (l12 : 0 ≤ a_) (u12 : a_ ≤ 110) (l13 : 0 ≤ pt) (u13 : pt ≤ 5) (l14 : 0 ≤ d6) (u14 : d6 ≤ 5) (l15 : 0 ≤ m6) (u15 : m6 ≤ 5) (l16 : 0 ≤ so) (u16 : so ≤ 0) : (True) ∧ (True) ∧ rxIPW2_13 S0 ws S part n at_ (c + 1) ∧ rxmPW2_13 S0 ws S part n at_ (c + 1) < rxmPW2_15 S0 ws S part at_ c n a_ pt d6 m6 so := by
  obtain ⟨hI, hx⟩ := hinv
  obtain ⟨a_, b_, c_, d_⟩ := rxc240_15_1 hP hin I0 hI l8 u8 l9 u9 l10 u10 l11 u11 l12 u12 l13 u13 l14 u14 l15 u15 l16 u16
  exact ⟨a_, b_, ⟨c_, hx⟩, d_⟩
theorem rxgPW2_15_1 {X : (Nat → Int → Int) → Prop} {S0 : Nat → Int → Int} {ws : List Int} (hP : rxPPW2 S0 ws) : bx_obC rxL X S0 rxC240.2.2.1 (rxIPW2 S0 ws) (rxmPW2 S0 ws) 15 rxzPW2_15 rxoPW2_15_1 := by
  intro S S' r r' hinv hX hin hsm_ hseg
  obtain ⟨I0, I1, h0_, hr_, b_, f_, d_⟩ := bx_cl (evs := []) (fvs := []) hseg (by decide +kernel) (by decide +kernel)
  have hinv : rxIPW2_15 S0 ws S (r 8) (r 9) (r 10) (r 11) (r 12) (r 13) (r 14) (r 15) (r 16) := hinv
  rw [← hr_ 8 (by decide), ← hr_ 9 (by decide), ← hr_ 10 (by decide), ← hr_ 11 (by decide), ← hr_ 12 (by decide), ← hr_ 13 (by decide), ← hr_ 14 (by decide), ← hr_ 15 (by decide), ← hr_ 16 (by decide)] at hinv
  obtain ⟨⟨l8, u8⟩, ⟨l9, u9⟩, ⟨l10, u10⟩, ⟨l11, u11⟩, ⟨l12, u12⟩, ⟨l13, u13⟩, ⟨l14, u14⟩, ⟨l15, u15⟩, ⟨l16, u16⟩, -⟩ := b_
  have w_ := d_
  subst w_
  have g := rxcPW2_15_1 hP hin I0 hinv l8 u8 l9 u9 l10 u10 l11 u11 l12 u12 l13 u13 l14 u14 l15 u15 l16 u16
  refine ⟨bx_narP_ok (l := []) g.1, bx_nfP_ok h0_ (fvs := []) (by decide +kernel) g.2.1, ?_, ?_⟩
  · show rxIPW2_13 S0 ws S' (bx_val [(0, 0), (0, 0), (0, 0), (0, 0), (0, 0), (0, 0), (0, 0), (0, 0), (8, 0), (11, 0), (9, 0), (10, 1)] r' 8) (bx_val [(0, 0), (0, 0), (0, 0), (0, 0), (0, 0), (0, 0), (0, 0), (0, 0), (8, 0), (11, 0), (9, 0), (10, 1)] r' 9) (bx_val [(0, 0), (0, 0), (0, 0), (0, 0), (0, 0), (0, 0), (0, 0), (0, 0), (8, 0), (11, 0), (9, 0), (10, 1)] r' 10) (bx_val [(0, 0), (0, 0), (0, 0), (0, 0), (0, 0), (0, 0), (0, 0), (0, 0), (8, 0), (11, 0), (9, 0), (10, 1)] r' 11)
    rw [bx_val_x (n := 8) (e := (8, 0)) h0_ rfl, bx_val_x (n := 9) (e := (11, 0)) h0_ rfl, bx_val_x (n := 10) (e := (9, 0)) h0_ rfl, bx_val_x (n := 11) (e := (10, 1)) h0_ rfl]
    exact g.2.2.1
  · show rxmPW2_13 S0 ws S' (bx_val [(0, 0), (0, 0), (0, 0), (0, 0), (0, 0), (0, 0), (0, 0), (0, 0), (8, 0), (11, 0), (9, 0), (10, 1)] r' 8) (bx_val [(0, 0), (0, 0), (0, 0), (0, 0), (0, 0), (0, 0), (0, 0), (0, 0), (8, 0), (11, 0), (9, 0), (10, 1)] r' 9) (bx_val [(0, 0), (0, 0), (0, 0), (0, 0), (0, 0), (0, 0), (0, 0), (0, 0), (8, 0), (11, 0), (9, 0), (10, 1)] r' 10) (bx_val [(0, 0), (0, 0), (0, 0), (0, 0), (0, 0), (0, 0), (0, 0), (0, 0), (8, 0), (11, 0), (9, 0), (10, 1)] r' 11) < rxmPW2_15 S0 ws S' (r 8) (r 9) (r 10) (r 11) (r 12) (r 13) (r 14) (r 15) (r 16)
    rw [bx_val_x (n := 8) (e := (8, 0)) h0_ rfl, bx_val_x (n := 9) (e := (11, 0)) h0_ rfl, bx_val_x (n := 10) (e := (9, 0)) h0_ rfl, bx_val_x (n := 11) (e := (10, 1)) h0_ rfl, ← hr_ 8 (by decide), ← hr_ 9 (by decide), ← hr_ 10 (by decide), ← hr_ 11 (by decide), ← hr_ 12 (by decide), ← hr_ 13 (by decide), ← hr_ 14 (by decide), ← hr_ 15 (by decide), ← hr_ 16 (by decide)]
    exact g.2.2.2
theorem rxgCPW2 {X : (Nat → Int → Int) → Prop} {S0 : Nat → Int → Int} {ws : List Int} (hP : rxPPW2 S0 ws) : bx_allI (fun i q => rxUPW2 q = true ∨ bx_allP (fun o => bx_obC rxL X S0 rxC240.2.2.1 (rxIPW2 S0 ws) (rxmPW2 S0 ws) i q.1 o) q.2.1) 0 rxYPW2 := ⟨Or.inr ⟨rxgPW2_0_0 hP, trivial⟩, Or.inl rfl, Or.inr ⟨rxgPW2_2_0 hP, trivial⟩, Or.inl rfl, Or.inr ⟨rxgPW2_4_0 hP, rxgPW2_4_1 hP, rxgPW2_4_2 hP, rxgPW2_4_3 hP, trivial⟩, Or.inr ⟨rxgPW2_5_0 hP, rxgPW2_5_1 hP, rxgPW2_5_2 hP, rxgPW2_5_3 hP, trivial⟩, Or.inl rfl, Or.inr ⟨rxgPW2_7_0 hP, trivial⟩, Or.inl rfl, Or.inr ⟨rxgPW2_9_0 hP, trivial⟩, Or.inl rfl, Or.inr ⟨rxgPW2_11_0 hP, trivial⟩, Or.inr ⟨rxgPW2_12_0 hP, trivial⟩, Or.inr ⟨rxgPW2_13_0 hP, rxgPW2_13_1 hP, rxgPW2_13_2 hP, rxgPW2_13_3 hP, rxgPW2_13_4 hP, rxgPW2_13_5 hP, rxgPW2_13_6 hP, rxgPW2_13_7 hP, trivial⟩, Or.inl rfl, Or.inr ⟨rxgPW2_15_0 hP, rxgPW2_15_1 hP, trivial⟩, trivial⟩
theorem rxgEPW2 {X : (Nat → Int → Int) → Prop} {S0 : Nat → Int → Int} {ws : List Int} (hP : rxPPW2 S0 ws) : bx_allI (fun i q => rxUPW2 q = true ∨ bx_allP (fun E => bx_obE rxL X S0 rxC240.2.2.1 (rxIPW2 S0 ws) (rxPSPW2 S0 ws) i q.1 E) q.2.2) 0 rxYPW2 := ⟨Or.inr ⟨rxfPW2_0_0 hP, rxfPW2_0_1 hP, trivial⟩, Or.inl rfl, Or.inr trivial, Or.inl rfl, Or.inr trivial, Or.inr trivial, Or.inl rfl, Or.inr trivial, Or.inl rfl, Or.inr trivial, Or.inl rfl, Or.inr ⟨rxfPW2_11_0 hP, trivial⟩, Or.inr ⟨rxfPW2_12_0 hP, trivial⟩, Or.inr trivial, Or.inl rfl, Or.inr trivial, trivial⟩
theorem rxuPW2 {PX : State → Prop} {Dg : va_G} {A : Nat → Prop} {ad xa : Nat → Nat} {l : Launch} {X : (Nat → Int → Int) → Prop} (hPX : rx_PXOK rxNW A PX) (hX : ∀ S S1 : Nat → Int → Int, X S → bx_same rxL (bx_mdl rxC240.2.2.1) S S1 → X S1) (hQBX : bx_ConP rxG rxNW rxAO PX Dg rxL X vwCl A ad l rxM283 rxCBX rxPBX rxPSBX) (hQRY : bx_ConP rxG rxNW rxAO PX Dg rxL X vwCl A ad l rxM295 rxCRY rxPRY rxPSRY) (hQNX : bx_ConP rxG rxNW rxAO PX Dg rxL X vwCl A ad l rxM264 rxCNX rxPNX rxPSNX) (hQET2 : bx_ConP rxG rxNW rxAO PX Dg rxL X vwCl A ad l rxM285 rxCET2 rxPET2 rxPSET2) (hQIP : bx_ConP rxG rxNW rxAO PX Dg rxL X vwCl A ad l rxM296 rxCIP rxPIP rxPSIP) {S0 : Nat → Int → Int} {ws : List Int} (hP : rxPPW2 S0 ws) : ∀ (i : Nat) (q : bx_HE), rxYPW2[i]? = some q → rxUPW2 q = true → ∀ {p : Program} {e : Env} {R : Room} {s : State} {m : MethodId} {args : Array Value} {below : List Frame} {meth : Method} {c : Code} {Q : State → Prop} {H0 : Heap}, rx_Fr rxG rxNW rxAO PX p s m args meth c rxM240 → (∀ q, H0.size ≤ q → A q) → H0 = s.heap → rxM240.2.2.2.2.2.2.1 ≤ R.cells → rxM240.2.2.2.2.2.2.2 ≤ R.slots → rxC240.2.2.2.1 ≤ R.frames → rxC240.2.2.2.1 * 40 ≤ R.locals → bx_Step p l e R s m args below meth c Q Dg rxL X vwCl A xa H0 ad rxM240 rxYPW2 (rxIPW2 S0 ws) (rxmPW2 S0 ws) S0 rxC240.2.2.1 i q := by
  intro i q hq hus p e R s m args below meth c Q H0 hF hA hH0 hmc hms hd hdl
  match i, hq with
  | 0, hq =>
    cases hq
    exact absurd (show false = true from hus) Bool.false_ne_true
  | 1, hq =>
    cases hq
    exact rx_stepC (ins := .invokevirtual 388) (len := 3) (i' := 2) (M' := rxM283) (d := rxC240.2.2.2.1) (as := [.inr (3, (0, 480)), .inr (0, (0, 1))]) (t := []) (ct := rxCBX) hPX hF rfl hA hH0 hmc hms hd hdl (by decide +kernel) rfl rfl (by decide +kernel) (by decide +kernel) hQBX (by decide +kernel) rfl (Or.inl ⟨rfl, rfl, rfl⟩) (rxsPW2_1 hP)
  | 2, hq =>
    cases hq
    exact absurd (show false = true from hus) Bool.false_ne_true
  | 3, hq =>
    cases hq
    exact rx_stepC (ins := .invokevirtual 463) (len := 3) (i' := 4) (M' := rxM295) (d := rxC240.2.2.2.1) (as := [.inr (3, (0, 480))]) (t := []) (ct := rxCRY) hPX hF rfl hA hH0 hmc hms hd hdl (by decide +kernel) rfl rfl (by decide +kernel) (by decide +kernel) hQRY (by decide +kernel) rfl (Or.inl ⟨rfl, rfl, rfl⟩) (rxsPW2_3 hP)
  | 4, hq =>
    cases hq
    exact absurd (show false = true from hus) Bool.false_ne_true
  | 5, hq =>
    cases hq
    exact absurd (show false = true from hus) Bool.false_ne_true
  | 6, hq =>
    cases hq
    exact rx_stepC (ins := .invokevirtual 253) (len := 3) (i' := 7) (M' := rxM264) (d := rxC240.2.2.2.1) (as := [.inr (3, (0, 480))]) (t := []) (ct := rxCNX) hPX hF rfl hA hH0 hmc hms hd hdl (by decide +kernel) rfl rfl (by decide +kernel) (by decide +kernel) hQNX (by decide +kernel) rfl (Or.inl ⟨rfl, rfl, rfl⟩) (rxsPW2_6 hP)
  | 7, hq =>
    cases hq
    exact absurd (show false = true from hus) Bool.false_ne_true
  | 8, hq =>
    cases hq
    exact rx_stepC (ins := .invokevirtual 463) (len := 3) (i' := 9) (M' := rxM295) (d := rxC240.2.2.2.1) (as := [.inr (3, (0, 480))]) (t := []) (ct := rxCRY) hPX hF rfl hA hH0 hmc hms hd hdl (by decide +kernel) rfl rfl (by decide +kernel) (by decide +kernel) hQRY (by decide +kernel) rfl (Or.inl ⟨rfl, rfl, rfl⟩) (rxsPW2_8 hP)
  | 9, hq =>
    cases hq
    exact absurd (show false = true from hus) Bool.false_ne_true
  | 10, hq =>
    cases hq
    exact rx_stepC (ins := .invokevirtual 394) (len := 3) (i' := 11) (M' := rxM285) (d := rxC240.2.2.2.1) (as := [.inr (3, (0, 480))]) (t := []) (ct := rxCET2) hPX hF rfl hA hH0 hmc hms hd hdl (by decide +kernel) rfl rfl (by decide +kernel) (by decide +kernel) hQET2 (by decide +kernel) rfl (Or.inl ⟨rfl, rfl, rfl⟩) (rxsPW2_10 hP)
  | 11, hq =>
    cases hq
    exact absurd (show false = true from hus) Bool.false_ne_true
  | 12, hq =>
    cases hq
    exact absurd (show false = true from hus) Bool.false_ne_true
  | 13, hq =>
    cases hq
    exact absurd (show false = true from hus) Bool.false_ne_true
  | 14, hq =>
    cases hq
    exact rx_stepC (ins := .invokevirtual 466) (len := 3) (i' := 15) (M' := rxM296) (d := rxC240.2.2.2.1) (as := [.inr (3, (0, 480)), .inr (0, (12, 0)), .inr (0, (13, 0)), .inr (0, (14, 0)), .inr (0, (15, 0))]) (t := [.inr (0, (11, 0))]) (ct := rxCIP) hPX hF rfl hA hH0 hmc hms hd hdl (by decide +kernel) rfl rfl (by decide +kernel) (by decide +kernel) hQIP (by decide +kernel) rfl (Or.inr ⟨_, _, _, 1, rfl, rfl, by omega, rfl, rfl, rfl⟩) (rxsPW2_14 hP)
  | 15, hq =>
    cases hq
    exact absurd (show false = true from hus) Bool.false_ne_true
  | n + 16, hq => cases hq
theorem rxQPW2 {PX : State → Prop} {Dg : va_G} {A : Nat → Prop} {ad xa : Nat → Nat} {l : Launch} {X : (Nat → Int → Int) → Prop} (hPX : rx_PXOK rxNW A PX) (hsl : ∀ s : State, PX s → ∀ o idx n : Nat, rxSl o idx = some n → ∃ tx : String, vk_R (rxNm o) idx tx (ad n) s)
    (hX : ∀ S S' : Nat → Int → Int, X S → bx_same rxL (bx_mdl rxC240.2.2.1) S S' → X S')
    (ih : ∀ (j2 : Nat) (ct2 : bx_Ct) (M2 : rx_Mt), ct2 ∈ rxCnE j2 → ct2.2.2.2.1 + 1 ≤ rxC240.2.2.2.1 → rxT.2.2.2.2.2 j2 = some M2 → bx_Con rxG rxNW rxAO PX Dg rxL X vwCl A ad l M2 ct2) (hQBX : bx_ConP rxG rxNW rxAO PX Dg rxL X vwCl A ad l rxM283 rxCBX rxPBX rxPSBX) (hQRY : bx_ConP rxG rxNW rxAO PX Dg rxL X vwCl A ad l rxM295 rxCRY rxPRY rxPSRY) (hQNX : bx_ConP rxG rxNW rxAO PX Dg rxL X vwCl A ad l rxM264 rxCNX rxPNX rxPSNX) (hQET2 : bx_ConP rxG rxNW rxAO PX Dg rxL X vwCl A ad l rxM285 rxCET2 rxPET2 rxPSET2) (hQIP : bx_ConP rxG rxNW rxAO PX Dg rxL X vwCl A ad l rxM296 rxCIP rxPIP rxPSIP) : bx_ConP rxG rxNW rxAO PX Dg rxL X vwCl A ad l rxM240 rxC240 rxPPW2 rxPSPW2 :=
  rxQof (xa := xa) (Cn := rxCnE) (f := 30000) (j := 240) (tab := rxYPW2) (us := rxUPW2) hPX hsl hX ih rfl rxYcPW2 rxIPW2 rxmPW2
    (fun S0 ws r I0 I ht0 ht as he he1 hX0 hI0 hP hs ha => by
      have e := he.symm.trans (show bx_ent0 rxNP rxC240.1 bx_I0 [] = some ([(0, 0), (0, 0), (0, 0), (0, 0), (0, 0), (0, 0), (0, 0), (0, 0), ((-2147483648), 2147483647)], [], [.inr (3, (0, 480)), .inr (0, (8, 0))]) from rfl)
      cases e
      subst ha
      have h0 : r 0 = 0 := hs.1
      show rxIPW2_0 S0 _ S0 (r 8)
      refine ⟨⟨rfl, ?_⟩, trivial⟩
      simp only [List.map_cons, List.map_nil, bx_xv_ok h0]
      rfl)
    (fun S0 ws hP => rxuPW2 (xa := xa) hPX hX hQBX hQRY hQNX hQET2 hQIP hP) (fun S0 ws hP => rxgCPW2 hP) (fun S0 ws hP => rxgEPW2 hP)
def rzPT240 (S0 : Nat → Int → Int) (ws : List Int) (S : Nat → Int → Int) (w : Option Int) : Prop := ∃ pa : Int, ws = [480, pa] ∧ (((pa < 0 ∨ S0 482 0 ≤ pa) ∧ True ∧ S 480 8 = S0 480 8) ∨ (0 ≤ pa ∧ pa < S0 482 0 ∧ True ∧ S 480 8 = 0))
set_option maxHeartbeats 1000000 in
theorem rzQ240 {PX : State → Prop} {Dg : va_G} {A : Nat → Prop} {ad : Nat → Nat} {l : Launch} (hPX : rx_PXOK rxNW A PX) (hsl : ∀ s : State, PX s → ∀ o idx n : Nat, rxSl o idx = some n → ∃ tx : String, vk_R (rxNm o) idx tx (ad n) s) : bx_ConP rxG rxNW rxAO PX Dg rxL rxX vwCl A ad l rxM240 rxC240 (fun _ _ => True) rzPT240 := by
  have qNX := rxQNX (PX := PX) (Dg := Dg) (A := A) (ad := ad) (xa := fun n => n) (l := l) (X := (fun _ => True)) hPX hsl (fun _ _ h _ => h) (fun _ _ _ h => absurd h List.not_mem_nil)
  have qBG := rxQBG (PX := PX) (Dg := Dg) (A := A) (ad := ad) (xa := fun n => n) (l := l) (X := (fun _ => True)) hPX hsl (fun _ _ h _ => h) (fun _ _ _ h => absurd h List.not_mem_nil) qNX
  have qBX := rxQBX (PX := PX) (Dg := Dg) (A := A) (ad := ad) (xa := fun n => n) (l := l) (X := (fun _ => True)) hPX hsl (fun _ _ h _ => h) (fun _ _ _ h => absurd h List.not_mem_nil) qBG
  have qMU := rxQMU (PX := PX) (Dg := Dg) (A := A) (ad := ad) (xa := fun n => n) (l := l) (X := (fun _ => True)) hPX hsl (fun _ _ h _ => h) (fun _ _ _ h => absurd h List.not_mem_nil) qNX
  have qNU := rxQNU (PX := PX) (Dg := Dg) (A := A) (ad := ad) (xa := fun n => n) (l := l) (X := (fun _ => True)) hPX hsl (fun _ _ h _ => h) (fun _ _ _ h => absurd h List.not_mem_nil) qMU
  have qRPL := rxQRPL (PX := PX) (Dg := Dg) (A := A) (ad := ad) (xa := fun n => n) (l := l) (X := (fun _ => True)) hPX hsl (fun _ _ h _ => h) (fun _ _ _ h => absurd h List.not_mem_nil) qNX qNU
  have qIW := rxQIW (PX := PX) (Dg := Dg) (A := A) (ad := ad) (xa := fun n => n) (l := l) (X := (fun _ => True)) hPX hsl (fun _ _ h _ => h) (fun _ _ _ h => absurd h List.not_mem_nil)
  have qPU := rxQPU (PX := PX) (Dg := Dg) (A := A) (ad := ad) (xa := fun n => n) (l := l) (X := (fun _ => True)) hPX hsl (fun _ _ h _ => h) (fun _ _ _ h => absurd h List.not_mem_nil)
  have qOB := rxQOB (PX := PX) (Dg := Dg) (A := A) (ad := ad) (xa := fun n => n) (l := l) (X := (fun _ => True)) hPX hsl (fun _ _ h _ => h) (fun _ _ _ h => absurd h List.not_mem_nil) qMU qPU
  have qPP := rxQPP (PX := PX) (Dg := Dg) (A := A) (ad := ad) (xa := fun n => n) (l := l) (X := (fun _ => True)) hPX hsl (fun _ _ h _ => h) (fun _ _ _ h => absurd h List.not_mem_nil)
  have qPA := rxQPA (PX := PX) (Dg := Dg) (A := A) (ad := ad) (xa := fun n => n) (l := l) (X := (fun _ => True)) hPX hsl (fun _ _ h _ => h) (fun _ _ _ h => absurd h List.not_mem_nil)
  have qEM := rxQEM (PX := PX) (Dg := Dg) (A := A) (ad := ad) (xa := fun n => n) (l := l) (X := (fun _ => True)) hPX hsl (fun _ _ h _ => h) (fun _ _ _ h => absurd h List.not_mem_nil)
  have qLF := rxQLF (PX := PX) (Dg := Dg) (A := A) (ad := ad) (xa := fun n => n) (l := l) (X := (fun _ => True)) hPX hsl (fun _ _ h _ => h) (fun _ _ _ h => absurd h List.not_mem_nil) qMU qEM
  have qRP := rxQRP (PX := PX) (Dg := Dg) (A := A) (ad := ad) (xa := fun n => n) (l := l) (X := (fun _ => True)) hPX hsl (fun _ _ h _ => h) (fun _ _ _ h => absurd h List.not_mem_nil) qOB qPP qPA qLF
  have qRN := rxQRN (PX := PX) (Dg := Dg) (A := A) (ad := ad) (xa := fun n => n) (l := l) (X := (fun _ => True)) hPX hsl (fun _ _ h _ => h) (fun _ _ _ h => absurd h List.not_mem_nil) qPU qNX qOB qRP
  have qBI := rxQBI (PX := PX) (Dg := Dg) (A := A) (ad := ad) (xa := fun n => n) (l := l) (X := (fun _ => True)) hPX hsl (fun _ _ h _ => h) (fun _ _ _ h => absurd h List.not_mem_nil)
  have qST := rxQST (PX := PX) (Dg := Dg) (A := A) (ad := ad) (xa := fun n => n) (l := l) (X := (fun _ => True)) hPX hsl (fun _ _ h _ => h) (fun _ _ _ h => absurd h List.not_mem_nil) qEM
  have qIN := rxQIN (PX := PX) (Dg := Dg) (A := A) (ad := ad) (xa := fun n => n) (l := l) (X := (fun _ => True)) hPX hsl (fun _ _ h _ => h) (fun _ _ _ h => absurd h List.not_mem_nil)
  have qIS := rxQIS (PX := PX) (Dg := Dg) (A := A) (ad := ad) (xa := fun n => n) (l := l) (X := (fun _ => True)) hPX hsl (fun _ _ h _ => h) (fun _ _ _ h => absurd h List.not_mem_nil)
  have qIC := rxQIC (PX := PX) (Dg := Dg) (A := A) (ad := ad) (xa := fun n => n) (l := l) (X := (fun _ => True)) hPX hsl (fun _ _ h _ => h) (fun _ _ _ h => absurd h List.not_mem_nil)
  have qBS := rxQBS (PX := PX) (Dg := Dg) (A := A) (ad := ad) (xa := fun n => n) (l := l) (X := (fun _ => True)) hPX hsl (fun _ _ h _ => h) (fun _ _ _ h => absurd h List.not_mem_nil) qBI qST qPU qNX qIN qIS qMU qIC
  have qBT := rxQBT (PX := PX) (Dg := Dg) (A := A) (ad := ad) (xa := fun n => n) (l := l) (X := (fun _ => True)) hPX hsl (fun _ _ h _ => h) (fun _ _ _ h => absurd h List.not_mem_nil) qST qPU qEM qNX qIN qIS qMU
  have qRE := rxQRE (PX := PX) (Dg := Dg) (A := A) (ad := ad) (xa := fun n => n) (l := l) (X := (fun _ => True)) hPX hsl (fun _ _ h _ => h) (fun _ _ _ h => absurd h List.not_mem_nil) qRN qRP qBS qBT qST
  have qRY := rxQRY (PX := PX) (Dg := Dg) (A := A) (ad := ad) (xa := fun n => n) (l := l) (X := (fun _ => True)) hPX hsl (fun _ _ h _ => h) (fun _ _ _ h => absurd h List.not_mem_nil) qMU qRPL qIW qRE qNX
  have qET2 := rxQET2 (PX := PX) (Dg := Dg) (A := A) (ad := ad) (xa := fun n => n) (l := l) (X := (fun _ => True)) hPX hsl (fun _ _ h _ => h) (fun _ _ _ h => absurd h List.not_mem_nil) qMU
  have qRA := rxQRA (PX := PX) (Dg := Dg) (A := A) (ad := ad) (xa := fun n => n) (l := l) (X := (fun _ => True)) hPX hsl (fun _ _ h _ => h) (fun _ _ _ h => absurd h List.not_mem_nil)
  have qIP := rxQIP (PX := PX) (Dg := Dg) (A := A) (ad := ad) (xa := fun n => n) (l := l) (X := (fun _ => True)) hPX hsl (fun _ _ h _ => h) (fun _ _ _ h => absurd h List.not_mem_nil) qRA
  have qPW2 := rxQPW2 (PX := PX) (Dg := Dg) (A := A) (ad := ad) (xa := fun n => n) (l := l) (X := (fun _ => True)) hPX hsl (fun _ _ h _ => h) (fun _ _ _ h => absurd h List.not_mem_nil) qBX qRY qNX qET2 qIP
  exact rx_conW (rx_conX qPW2 (fun S0 ws h => h) (fun S0 ws S w _ _ h => h.1)) (fun _ _ _ _ h => h.2)
