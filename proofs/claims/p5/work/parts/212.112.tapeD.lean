/-! CONTRACT BY HAND, by program (wip/sim/genhand.py): DeadUnderstudies.end -/
def rxI233_0 (S0 : Nat → Int → Int) (ws : List Int) (S : Nat → Int → Int) (m : Int) : Prop := S = S0 ∧ ws = [0, m]
def rxm233_0 (S0 : Nat → Int → Int) (ws : List Int) (S : Nat → Int → Int) (m : Int) : Nat := 100
def rxz233_0 : rx_Z := ([(0, 0), (0, 0), (0, 0), (0, 0), (0, 0), (0, 0), (0, 0), (0, 0), ((-2147483648), 2147483647)], [], [], 0, 0, 0, [(0, .inr (3, (0, 0))), (1, .inr (0, (8, 0)))], [])
def rxe233_0_0 : rx_End × List (Nat × Int × Int) := (([(0, 0), (0, 0), (0, 0), (0, 0), (0, 0), (0, 0), (0, 0), (0, 0), (1, 2147483647), (0, 400)], [(0, (9, 0), (8, 0))], [(((0, 0), 1851192626986356798227167157524121751206303872841384191768657920000000), .inr (0, (9, 0))), (((0, 0), 4), .inr (0, (9, 0)))], some (.inr (0, (0, (-1))))), [])
def rxe233_0_1 : rx_End × List (Nat × Int × Int) := (([(0, 0), (0, 0), (0, 0), (0, 0), (0, 0), (0, 0), (0, 0), (0, 0), (0, 400), (0, 400)], [(1, (8, 0), (9, 0))], [(((0, 0), 1851192626986356798227167157524121751206303872841384191768657923000000), .inr (0, (8, 0))), (((0, 0), 4), .inr (0, (8, 0))), (((0, 0), 1851192626986356798227167157524121751206303872841384191768657920000000), .inr (0, (9, 0)))], some (.inr (0, (8, 0)))), [])
def rxe233_0_2 : rx_End × List (Nat × Int × Int) := (([(0, 0), (0, 0), (0, 0), (0, 0), (0, 0), (0, 0), (0, 0), (0, 0), ((-2147483648), (-1))], [], [], some (.inr (0, (0, (-1))))), [])
def rxY233 : List bx_HE := [(rxz233_0, [], [rxe233_0_0, rxe233_0_1, rxe233_0_2])]
def rxU233 (q : bx_HE) : Bool := false
def rxYB233 : bx_B := (rxV, rxNP, rxDmf, bx_mdH rxC233.2.2.1)
set_option maxRecDepth 100000 in
theorem rxYc233 : bx_chkH rxYB233 rxM233 rxC233 rxY233 (rxU233, fun cut z => rx_ex2 (rxCT rxYB233 rxCnE) cut 30000 rxC233.2.2.2.1 233 z) = true := by decide +kernel
def rxI233 (S0 : Nat → Int → Int) (ws : List Int) (i : Nat) : bx_SP := fun S r => match i with | 0 => rxI233_0 S0 ws S (r 8) | _ => False
def rxm233 (S0 : Nat → Int → Int) (ws : List Int) (i : Nat) (S : Nat → Int → Int) (r : Nat → Int) : Nat := match i with | 0 => rxm233_0 S0 ws S (r 8) | _ => 0
def rxP233 (S0 : Nat → Int → Int) (ws : List Int) : Prop := True
def rxPS233 (S0 : Nat → Int → Int) (ws : List Int) (S : Nat → Int → Int) (w : Option Int) : Prop := ∃ m : Int, ws = [0, m] ∧ (((m < 0 ∨ S0 0 4 < m) ∧ w = some (-1) ∧ S = S0) ∨ (0 ≤ m ∧ m ≤ S0 0 4 ∧ w = some m ∧ S 0 4 = m))
theorem rxd233_0_0 {S0 : Nat → Int → Int} {ws : List Int} {S : Nat → Int → Int} {m x9 : Int} (hP : rxP233 S0 ws) (hin : bx_same rxL (bx_mdl rxC233.2.2.1) S0 S) (hin2 : bx_same rxL (bx_mdl rxC233.2.2.1) S S) (I0 : bx_Inv rxL S) (I1 : bx_Inv rxL S) (hinv : rxI233_0 S0 ws S m) (l8 : 1 ≤ m) (u8 : m ≤ 2147483647) (l9 : 0 ≤ x9) (u9 : x9 ≤ 400) (f0 : x9 < m) (e0 : S 0 4 = x9) : (True) ∧ rxPS233 S0 ws S (some ((-1))) := by
  obtain ⟨rfl, hw⟩ := hinv
  exact ⟨trivial, m, hw, Or.inl ⟨by omega, rfl, rfl⟩⟩
theorem rxf233_0_0 {X : (Nat → Int → Int) → Prop} {S0 : Nat → Int → Int} {ws : List Int} (hP : rxP233 S0 ws) : bx_obE rxL X S0 rxC233.2.2.1 (rxI233 S0 ws) (rxPS233 S0 ws) 0 rxz233_0 rxe233_0_0 := by
  intro S S_p r r_p hinv hX hin hsm_ hseg
  obtain ⟨I0, I1, h0_, hr_, b_, f_, d_⟩ := bx_cl (evs := [(0, (0, 0), (0, 4), .inr (0, (9, 0)))]) (fvs := [(0, (9, 0), (8, 0), (0, 0))]) hseg (by decide +kernel) (by decide +kernel)
  have hinv : rxI233_0 S0 ws S (r 8) := hinv
  rw [← hr_ 8 (by decide)] at hinv
  obtain ⟨⟨l8, u8⟩, ⟨l9, u9⟩, -⟩ := b_
  obtain ⟨f0, -⟩ := f_
  obtain ⟨e0, w_⟩ := d_
  subst w_
  have g := rxd233_0_0 hP hin hsm_ I0 I1 hinv l8 u8 l9 u9 f0 e0
  refine ⟨bx_narP_ok (l := []) g.1, ?_⟩
  show rxPS233 S0 ws S_p (some (bx_num r_p (.inr (0, (0, (-1))))))
  rw [bx_xv_ok h0_]
  exact g.2
theorem rxd233_0_1 {S0 : Nat → Int → Int} {ws : List Int} {S : Nat → Int → Int} {m x9 : Int} (hP : rxP233 S0 ws) (hin : bx_same rxL (bx_mdl rxC233.2.2.1) S0 S) (hin2 : bx_same rxL (bx_mdl rxC233.2.2.1) S (bx_up S 0 4 m)) (I0 : bx_Inv rxL S) (I1 : bx_Inv rxL (bx_up S 0 4 m)) (hinv : rxI233_0 S0 ws S m) (l8 : 0 ≤ m) (u8 : m ≤ 400) (l9 : 0 ≤ x9) (u9 : x9 ≤ 400) (f0 : m ≤ x9) (e1 : S 0 4 = x9) : (True) ∧ rxPS233 S0 ws (bx_up S 0 4 m) (some m) := by
  obtain ⟨rfl, hw⟩ := hinv
  exact ⟨trivial, m, hw, Or.inr ⟨by omega, by omega, rfl, bx_up_at⟩⟩
theorem rxf233_0_1 {X : (Nat → Int → Int) → Prop} {S0 : Nat → Int → Int} {ws : List Int} (hP : rxP233 S0 ws) : bx_obE rxL X S0 rxC233.2.2.1 (rxI233 S0 ws) (rxPS233 S0 ws) 0 rxz233_0 rxe233_0_1 := by
  intro S S_p r r_p hinv hX hin hsm_ hseg
  obtain ⟨I0, I1, h0_, hr_, b_, f_, d_⟩ := bx_cl (evs := [(1, (0, 0), (0, 4), .inr (0, (8, 0))), (0, (0, 0), (0, 4), .inr (0, (9, 0)))]) (fvs := [(1, (8, 0), (9, 0), (0, 0))]) hseg (by decide +kernel) (by decide +kernel)
  have hinv : rxI233_0 S0 ws S (r 8) := hinv
  rw [← hr_ 8 (by decide)] at hinv
  obtain ⟨⟨l8, u8⟩, ⟨l9, u9⟩, -⟩ := b_
  obtain ⟨f0, -⟩ := f_
  obtain ⟨T0, ⟨e1, w_⟩, w0⟩ := d_
  subst w0
  subst w_
  have g := rxd233_0_1 hP hin hsm_ I0 I1 hinv l8 u8 l9 u9 f0 e1
  refine ⟨bx_narP_ok (l := []) g.1, ?_⟩
  show rxPS233 S0 ws (bx_up T0 0 (4) (r_p 8)) (some (bx_num r_p (.inr (0, (8, 0)))))
  rw [bx_xv_ok h0_]
  exact g.2
theorem rxd233_0_2 {S0 : Nat → Int → Int} {ws : List Int} {S : Nat → Int → Int} {m : Int} (hP : rxP233 S0 ws) (hin : bx_same rxL (bx_mdl rxC233.2.2.1) S0 S) (hin2 : bx_same rxL (bx_mdl rxC233.2.2.1) S S) (I0 : bx_Inv rxL S) (I1 : bx_Inv rxL S) (hinv : rxI233_0 S0 ws S m) (l8 : (-2147483648) ≤ m) (u8 : m ≤ (-1)) : (True) ∧ rxPS233 S0 ws S (some ((-1))) := by
  obtain ⟨rfl, hw⟩ := hinv
  exact ⟨trivial, m, hw, Or.inl ⟨by omega, rfl, rfl⟩⟩
theorem rxf233_0_2 {X : (Nat → Int → Int) → Prop} {S0 : Nat → Int → Int} {ws : List Int} (hP : rxP233 S0 ws) : bx_obE rxL X S0 rxC233.2.2.1 (rxI233 S0 ws) (rxPS233 S0 ws) 0 rxz233_0 rxe233_0_2 := by
  intro S S_p r r_p hinv hX hin hsm_ hseg
  obtain ⟨I0, I1, h0_, hr_, b_, f_, d_⟩ := bx_cl (evs := []) (fvs := []) hseg (by decide +kernel) (by decide +kernel)
  have hinv : rxI233_0 S0 ws S (r 8) := hinv
  rw [← hr_ 8 (by decide)] at hinv
  obtain ⟨⟨l8, u8⟩, -⟩ := b_
  have w_ := d_
  subst w_
  have g := rxd233_0_2 hP hin hsm_ I0 I1 hinv l8 u8
  refine ⟨bx_narP_ok (l := []) g.1, ?_⟩
  show rxPS233 S0 ws S_p (some (bx_num r_p (.inr (0, (0, (-1))))))
  rw [bx_xv_ok h0_]
  exact g.2
theorem rxgC233 {X : (Nat → Int → Int) → Prop} {S0 : Nat → Int → Int} {ws : List Int} (hP : rxP233 S0 ws) : bx_allI (fun i q => rxU233 q = true ∨ bx_allP (fun o => bx_obC rxL X S0 rxC233.2.2.1 (rxI233 S0 ws) (rxm233 S0 ws) i q.1 o) q.2.1) 0 rxY233 := ⟨Or.inr trivial, trivial⟩
theorem rxgE233 {X : (Nat → Int → Int) → Prop} {S0 : Nat → Int → Int} {ws : List Int} (hP : rxP233 S0 ws) : bx_allI (fun i q => rxU233 q = true ∨ bx_allP (fun E => bx_obE rxL X S0 rxC233.2.2.1 (rxI233 S0 ws) (rxPS233 S0 ws) i q.1 E) q.2.2) 0 rxY233 := ⟨Or.inr ⟨rxf233_0_0 hP, rxf233_0_1 hP, rxf233_0_2 hP, trivial⟩, trivial⟩
theorem rxQ233 {PX : State → Prop} {Dg : va_G} {A : Nat → Prop} {ad xa : Nat → Nat} {l : Launch} {X : (Nat → Int → Int) → Prop} (hPX : rx_PXOK rxNW A PX) (hsl : ∀ s : State, PX s → ∀ o idx n : Nat, rxSl o idx = some n → ∃ tx : String, vk_R (rxNm o) idx tx (ad n) s)
    (hX : ∀ S S_p : Nat → Int → Int, X S → bx_same rxL (bx_mdl rxC233.2.2.1) S S_p → X S_p)
    (ih : ∀ (j2 : Nat) (ct2 : bx_Ct) (M2 : rx_Mt), ct2 ∈ rxCnE j2 → ct2.2.2.2.1 + 1 ≤ rxC233.2.2.2.1 → rxT.2.2.2.2.2 j2 = some M2 → bx_Con rxG rxNW rxAO PX Dg rxL X vwCl A ad l M2 ct2) : bx_ConP rxG rxNW rxAO PX Dg rxL X vwCl A ad l rxM233 rxC233 rxP233 rxPS233 :=
  rxQof (xa := xa) (Cn := rxCnE) (f := 30000) (j := 233) (tab := rxY233) (us := rxU233) hPX hsl hX ih rfl rxYc233 rxI233 rxm233
    (fun S0 ws r I0 I ht0 ht as he he1 hX0 hI0 hP hs ha => by
      have e := he.symm.trans (show bx_ent0 rxNP rxC233.1 bx_I0 [] = some ([(0, 0), (0, 0), (0, 0), (0, 0), (0, 0), (0, 0), (0, 0), (0, 0), ((-2147483648), 2147483647)], [], [.inr (3, (0, 0)), .inr (0, (8, 0))]) from rfl)
      cases e
      subst ha
      have h0 : r 0 = 0 := hs.1
      show rxI233_0 S0 _ S0 (r 8)
      refine ⟨rfl, ?_⟩
      simp only [List.map_cons, List.map_nil, bx_xv_ok h0]
      rfl)
    (fun S0 ws hP => fun i q hq hus => absurd (show false = true from hus) Bool.false_ne_true) (fun S0 ws hP => rxgC233 hP) (fun S0 ws hP => rxgE233 hP)
set_option maxHeartbeats 1000000 in
theorem rzQ233 {PX : State → Prop} {Dg : va_G} {A : Nat → Prop} {ad : Nat → Nat} {l : Launch} (hPX : rx_PXOK rxNW A PX) (hsl : ∀ s : State, PX s → ∀ o idx n : Nat, rxSl o idx = some n → ∃ tx : String, vk_R (rxNm o) idx tx (ad n) s) (ih : ∀ (j : Nat) (ct : bx_Ct) (M : rx_Mt), ct ∈ rxCn j → rxT.2.2.2.2.2 j = some M → bx_Con rxG rxNW rxAO PX Dg rxL rxX vwCl A ad l M ct) : bx_ConP rxG rxNW rxAO PX Dg rxL rxX vwCl A ad l rxM233 rxC233 (fun _ _ => True) rxPS233 := by
  have q233 := rxQ233 (PX := PX) (Dg := Dg) (A := A) (ad := ad) (xa := fun n => n) (l := l) (X := rxX) hPX hsl (fun _ _ h hm => rxX_of (by decide +kernel) h hm) (fun _ _ _ h => absurd h List.not_mem_nil)
  exact fun S0 ws h1 h2 h3 _ => q233 S0 ws h1 h2 h3 trivial
/-! CONTRACT BY HAND, by program (wip/sim/genhand.py): DeadUnderstudiesModel.end -/
def rxI234_0 (S0 : Nat → Int → Int) (ws : List Int) (S : Nat → Int → Int) (m : Int) : Prop := S = S0 ∧ ws = [480, m]
def rxm234_0 (S0 : Nat → Int → Int) (ws : List Int) (S : Nat → Int → Int) (m : Int) : Nat := 100
def rxz234_0 : rx_Z := ([(0, 0), (0, 0), (0, 0), (0, 0), (0, 0), (0, 0), (0, 0), (0, 0), ((-2147483648), 2147483647)], [], [], 0, 0, 0, [(0, .inr (3, (0, 480))), (1, .inr (0, (8, 0)))], [])
def rxe234_0_0 : rx_End × List (Nat × Int × Int) := (([(0, 0), (0, 0), (0, 0), (0, 0), (0, 0), (0, 0), (0, 0), (0, 0), (1, 2147483647), (0, 400)], [(0, (9, 0), (8, 0))], [(((0, 0), 1851192626986356799029993984671224184301589730656725206267068416000000), .inr (0, (9, 0))), (((0, 480), 8), .inr (0, (9, 0))), (((0, 0), 1851192626986356797424340330377019318111018015026043177836478467000000), .inr (0, (0, 0))), (((0, 480), 0), .inr (0, (0, 0)))], some (.inr (0, (0, (-1))))), [])
def rxe234_0_1 : rx_End × List (Nat × Int × Int) := (([(0, 0), (0, 0), (0, 0), (0, 0), (0, 0), (0, 0), (0, 0), (0, 0), (0, 400), (0, 400)], [(1, (8, 0), (9, 0))], [(((0, 0), 1851192626986356799029993984671224184301589730656725206267068419000000), .inr (0, (8, 0))), (((0, 480), 8), .inr (0, (8, 0))), (((0, 0), 1851192626986356799029993984671224184301589730656725206267068416000000), .inr (0, (9, 0))), (((0, 0), 1851192626986356797424340330377019318111018015026043177836478467000000), .inr (0, (0, 0))), (((0, 480), 0), .inr (0, (0, 0)))], some (.inr (0, (8, 0)))), [])
def rxe234_0_2 : rx_End × List (Nat × Int × Int) := (([(0, 0), (0, 0), (0, 0), (0, 0), (0, 0), (0, 0), (0, 0), (0, 0), ((-2147483648), (-1))], [], [(((0, 0), 1851192626986356797424340330377019318111018015026043177836478467000000), .inr (0, (0, 0))), (((0, 480), 0), .inr (0, (0, 0)))], some (.inr (0, (0, (-1))))), [])
def rxY234 : List bx_HE := [(rxz234_0, [], [rxe234_0_0, rxe234_0_1, rxe234_0_2])]
def rxU234 (q : bx_HE) : Bool := false
def rxYB234 : bx_B := (rxV, rxNP, rxDmf, bx_mdH rxC234.2.2.1)
set_option maxRecDepth 100000 in
theorem rxYc234 : bx_chkH rxYB234 rxM234 rxC234 rxY234 (rxU234, fun cut z => rx_ex2 (rxCT rxYB234 rxCnE) cut 30000 rxC234.2.2.2.1 234 z) = true := by decide +kernel
def rxI234 (S0 : Nat → Int → Int) (ws : List Int) (i : Nat) : bx_SP := fun S r => match i with | 0 => rxI234_0 S0 ws S (r 8) | _ => False
def rxm234 (S0 : Nat → Int → Int) (ws : List Int) (i : Nat) (S : Nat → Int → Int) (r : Nat → Int) : Nat := match i with | 0 => rxm234_0 S0 ws S (r 8) | _ => 0
def rxP234 (S0 : Nat → Int → Int) (ws : List Int) : Prop := True
def rxPS234 (S0 : Nat → Int → Int) (ws : List Int) (S : Nat → Int → Int) (w : Option Int) : Prop := ∃ m : Int, ws = [480, m] ∧ (((m < 0 ∨ S0 480 8 < m) ∧ w = some (-1) ∧ (∀ j : Int, S 482 j = S0 482 j) ∧ S 480 8 = S0 480 8) ∨ (0 ≤ m ∧ m ≤ S0 480 8 ∧ w = some m ∧ S 480 8 = m))
theorem rxd234_0_0 {S0 : Nat → Int → Int} {ws : List Int} {S : Nat → Int → Int} {m x9 : Int} (hP : rxP234 S0 ws) (hin : bx_same rxL (bx_mdl rxC234.2.2.1) S0 S) (hin2 : bx_same rxL (bx_mdl rxC234.2.2.1) S (bx_up S 480 0 0)) (I0 : bx_Inv rxL S) (I1 : bx_Inv rxL (bx_up S 480 0 0)) (hinv : rxI234_0 S0 ws S m) (l8 : 1 ≤ m) (u8 : m ≤ 2147483647) (l9 : 0 ≤ x9) (u9 : x9 ≤ 400) (f0 : x9 < m) (e0 : (bx_up S 480 0 0) 480 8 = x9) : (True) ∧ rxPS234 S0 ws (bx_up S 480 0 0) (some ((-1))) := by
  obtain ⟨rfl, hw⟩ := hinv
  have e0 := (show _ = S 480 8 from (bx_up_ne (by omega))).symm.trans e0
  refine ⟨trivial, m, hw, Or.inl (⟨?_, ?_, fun j => (bx_up_ne (by omega)), (bx_up_ne (by omega))⟩)⟩ <;> first | omega | exact hin2 | exact congrArg some (by omega) | (intro i i0 i1; simp only [bx_up]; (repeat' split) <;> first | rfl | omega | (simp_all; done) | (simp_all; omega)) | ((repeat (first | rw [bx_up_at] | rw [bx_up_ne (by omega)])); omega) | exact True.intro
theorem rxf234_0_0 {X : (Nat → Int → Int) → Prop} {S0 : Nat → Int → Int} {ws : List Int} (hP : rxP234 S0 ws) : bx_obE rxL X S0 rxC234.2.2.1 (rxI234 S0 ws) (rxPS234 S0 ws) 0 rxz234_0 rxe234_0_0 := by
  intro S S_p r r_p hinv hX hin hsm_ hseg
  obtain ⟨I0, I1, h0_, hr_, b_, f_, d_⟩ := bx_cl (evs := [(0, (0, 480), (0, 8), .inr (0, (9, 0))), (1, (0, 480), (0, 0), .inr (0, (0, 0)))]) (fvs := [(0, (9, 0), (8, 0), (0, 0))]) hseg (by decide +kernel) (by decide +kernel)
  have hinv : rxI234_0 S0 ws S (r 8) := hinv
  rw [← hr_ 8 (by decide)] at hinv
  obtain ⟨⟨l8, u8⟩, ⟨l9, u9⟩, -⟩ := b_
  obtain ⟨f0, -⟩ := f_
  obtain ⟨e0, ⟨T1, w_, w1⟩⟩ := d_
  subst w1
  subst w_
  have g := rxd234_0_0 hP hin hsm_ I0 I1 hinv l8 u8 l9 u9 f0 e0
  refine ⟨bx_narP_ok (l := []) g.1, ?_⟩
  show rxPS234 S0 ws (bx_up T1 480 (0) (0)) (some (bx_num r_p (.inr (0, (0, (-1))))))
  rw [bx_xv_ok h0_]
  exact g.2
theorem rxd234_0_1 {S0 : Nat → Int → Int} {ws : List Int} {S : Nat → Int → Int} {m x9 : Int} (hP : rxP234 S0 ws) (hin : bx_same rxL (bx_mdl rxC234.2.2.1) S0 S) (hin2 : bx_same rxL (bx_mdl rxC234.2.2.1) S (bx_up (bx_up S 480 0 0) 480 8 m)) (I0 : bx_Inv rxL S) (I1 : bx_Inv rxL (bx_up (bx_up S 480 0 0) 480 8 m)) (hinv : rxI234_0 S0 ws S m) (l8 : 0 ≤ m) (u8 : m ≤ 400) (l9 : 0 ≤ x9) (u9 : x9 ≤ 400) (f0 : m ≤ x9) (e1 : (bx_up S 480 0 0) 480 8 = x9) : (True) ∧ rxPS234 S0 ws (bx_up (bx_up S 480 0 0) 480 8 m) (some m) := by
  obtain ⟨rfl, hw⟩ := hinv
  have e1 := (show _ = S 480 8 from (bx_up_ne (by omega))).symm.trans e1
  refine ⟨trivial, m, hw, Or.inr (⟨?_, ?_, ?_, (bx_up_at).trans (by omega)⟩)⟩ <;> first | omega | exact hin2 | exact congrArg some (by omega) | (intro i i0 i1; simp only [bx_up]; (repeat' split) <;> first | rfl | omega | (simp_all; done) | (simp_all; omega)) | ((repeat (first | rw [bx_up_at] | rw [bx_up_ne (by omega)])); omega) | exact True.intro
theorem rxf234_0_1 {X : (Nat → Int → Int) → Prop} {S0 : Nat → Int → Int} {ws : List Int} (hP : rxP234 S0 ws) : bx_obE rxL X S0 rxC234.2.2.1 (rxI234 S0 ws) (rxPS234 S0 ws) 0 rxz234_0 rxe234_0_1 := by
  intro S S_p r r_p hinv hX hin hsm_ hseg
  obtain ⟨I0, I1, h0_, hr_, b_, f_, d_⟩ := bx_cl (evs := [(1, (0, 480), (0, 8), .inr (0, (8, 0))), (0, (0, 480), (0, 8), .inr (0, (9, 0))), (1, (0, 480), (0, 0), .inr (0, (0, 0)))]) (fvs := [(1, (8, 0), (9, 0), (0, 0))]) hseg (by decide +kernel) (by decide +kernel)
  have hinv : rxI234_0 S0 ws S (r 8) := hinv
  rw [← hr_ 8 (by decide)] at hinv
  obtain ⟨⟨l8, u8⟩, ⟨l9, u9⟩, -⟩ := b_
  obtain ⟨f0, -⟩ := f_
  obtain ⟨T0, ⟨e1, ⟨T2, w_, w2⟩⟩, w0⟩ := d_
  subst w0
  subst w2
  subst w_
  have g := rxd234_0_1 hP hin hsm_ I0 I1 hinv l8 u8 l9 u9 f0 e1
  refine ⟨bx_narP_ok (l := []) g.1, ?_⟩
  show rxPS234 S0 ws (bx_up (bx_up T2 480 (0) (0)) 480 (8) (r_p 8)) (some (bx_num r_p (.inr (0, (8, 0)))))
  rw [bx_xv_ok h0_]
  exact g.2
theorem rxd234_0_2 {S0 : Nat → Int → Int} {ws : List Int} {S : Nat → Int → Int} {m : Int} (hP : rxP234 S0 ws) (hin : bx_same rxL (bx_mdl rxC234.2.2.1) S0 S) (hin2 : bx_same rxL (bx_mdl rxC234.2.2.1) S (bx_up S 480 0 0)) (I0 : bx_Inv rxL S) (I1 : bx_Inv rxL (bx_up S 480 0 0)) (hinv : rxI234_0 S0 ws S m) (l8 : (-2147483648) ≤ m) (u8 : m ≤ (-1)) : (True) ∧ rxPS234 S0 ws (bx_up S 480 0 0) (some ((-1))) := by
  obtain ⟨rfl, hw⟩ := hinv
  refine ⟨trivial, m, hw, Or.inl (⟨?_, ?_, fun j => (bx_up_ne (by omega)), (bx_up_ne (by omega))⟩)⟩ <;> first | omega | exact hin2 | exact congrArg some (by omega) | (intro i i0 i1; simp only [bx_up]; (repeat' split) <;> first | rfl | omega | (simp_all; done) | (simp_all; omega)) | ((repeat (first | rw [bx_up_at] | rw [bx_up_ne (by omega)])); omega) | exact True.intro
theorem rxf234_0_2 {X : (Nat → Int → Int) → Prop} {S0 : Nat → Int → Int} {ws : List Int} (hP : rxP234 S0 ws) : bx_obE rxL X S0 rxC234.2.2.1 (rxI234 S0 ws) (rxPS234 S0 ws) 0 rxz234_0 rxe234_0_2 := by
  intro S S_p r r_p hinv hX hin hsm_ hseg
  obtain ⟨I0, I1, h0_, hr_, b_, f_, d_⟩ := bx_cl (evs := [(1, (0, 480), (0, 0), .inr (0, (0, 0)))]) (fvs := []) hseg (by decide +kernel) (by decide +kernel)
  have hinv : rxI234_0 S0 ws S (r 8) := hinv
  rw [← hr_ 8 (by decide)] at hinv
  obtain ⟨⟨l8, u8⟩, -⟩ := b_
  obtain ⟨T0, w_, w0⟩ := d_
  subst w0
  subst w_
  have g := rxd234_0_2 hP hin hsm_ I0 I1 hinv l8 u8
  refine ⟨bx_narP_ok (l := []) g.1, ?_⟩
  show rxPS234 S0 ws (bx_up T0 480 (0) (0)) (some (bx_num r_p (.inr (0, (0, (-1))))))
  rw [bx_xv_ok h0_]
  exact g.2
theorem rxgC234 {X : (Nat → Int → Int) → Prop} {S0 : Nat → Int → Int} {ws : List Int} (hP : rxP234 S0 ws) : bx_allI (fun i q => rxU234 q = true ∨ bx_allP (fun o => bx_obC rxL X S0 rxC234.2.2.1 (rxI234 S0 ws) (rxm234 S0 ws) i q.1 o) q.2.1) 0 rxY234 := ⟨Or.inr trivial, trivial⟩
theorem rxgE234 {X : (Nat → Int → Int) → Prop} {S0 : Nat → Int → Int} {ws : List Int} (hP : rxP234 S0 ws) : bx_allI (fun i q => rxU234 q = true ∨ bx_allP (fun E => bx_obE rxL X S0 rxC234.2.2.1 (rxI234 S0 ws) (rxPS234 S0 ws) i q.1 E) q.2.2) 0 rxY234 := ⟨Or.inr ⟨rxf234_0_0 hP, rxf234_0_1 hP, rxf234_0_2 hP, trivial⟩, trivial⟩
theorem rxQ234 {PX : State → Prop} {Dg : va_G} {A : Nat → Prop} {ad xa : Nat → Nat} {l : Launch} {X : (Nat → Int → Int) → Prop} (hPX : rx_PXOK rxNW A PX) (hsl : ∀ s : State, PX s → ∀ o idx n : Nat, rxSl o idx = some n → ∃ tx : String, vk_R (rxNm o) idx tx (ad n) s)
    (hX : ∀ S S_p : Nat → Int → Int, X S → bx_same rxL (bx_mdl rxC234.2.2.1) S S_p → X S_p)
    (ih : ∀ (j2 : Nat) (ct2 : bx_Ct) (M2 : rx_Mt), ct2 ∈ rxCnE j2 → ct2.2.2.2.1 + 1 ≤ rxC234.2.2.2.1 → rxT.2.2.2.2.2 j2 = some M2 → bx_Con rxG rxNW rxAO PX Dg rxL X vwCl A ad l M2 ct2) : bx_ConP rxG rxNW rxAO PX Dg rxL X vwCl A ad l rxM234 rxC234 rxP234 rxPS234 :=
  rxQof (xa := xa) (Cn := rxCnE) (f := 30000) (j := 234) (tab := rxY234) (us := rxU234) hPX hsl hX ih rfl rxYc234 rxI234 rxm234
    (fun S0 ws r I0 I ht0 ht as he he1 hX0 hI0 hP hs ha => by
      have e := he.symm.trans (show bx_ent0 rxNP rxC234.1 bx_I0 [] = some ([(0, 0), (0, 0), (0, 0), (0, 0), (0, 0), (0, 0), (0, 0), (0, 0), ((-2147483648), 2147483647)], [], [.inr (3, (0, 480)), .inr (0, (8, 0))]) from rfl)
      cases e
      subst ha
      have h0 : r 0 = 0 := hs.1
      show rxI234_0 S0 _ S0 (r 8)
      refine ⟨rfl, ?_⟩
      simp only [List.map_cons, List.map_nil, bx_xv_ok h0]
      rfl)
    (fun S0 ws hP => fun i q hq hus => absurd (show false = true from hus) Bool.false_ne_true) (fun S0 ws hP => rxgC234 hP) (fun S0 ws hP => rxgE234 hP)
set_option maxHeartbeats 1000000 in
theorem rzQ234 {PX : State → Prop} {Dg : va_G} {A : Nat → Prop} {ad : Nat → Nat} {l : Launch} (hPX : rx_PXOK rxNW A PX) (hsl : ∀ s : State, PX s → ∀ o idx n : Nat, rxSl o idx = some n → ∃ tx : String, vk_R (rxNm o) idx tx (ad n) s) : bx_ConP rxG rxNW rxAO PX Dg rxL rxX vwCl A ad l rxM234 rxC234 (fun _ _ => True) rxPS234 := by
  have q234 := rxQ234 (PX := PX) (Dg := Dg) (A := A) (ad := ad) (xa := fun n => n) (l := l) (X := rxX) hPX hsl (fun _ _ h hm => rxX_of (by decide +kernel) h hm) (fun _ _ _ h => absurd h List.not_mem_nil)
  exact fun S0 ws h1 h2 h3 _ => q234 S0 ws h1 h2 h3 trivial
/-! CONTRACT BY HAND, by program (wip/sim/genhand.py): DeadUnderstudies.law -/
def rxI241_0 (S0 : Nat → Int → Int) (ws : List Int) (S : Nat → Int → Int) : Prop := S = S0 ∧ ws = [0]
def rxm241_0 (S0 : Nat → Int → Int) (ws : List Int) (S : Nat → Int → Int) : Nat := 100
def rxz241_0 : rx_Z := ([(0, 0), (0, 0), (0, 0), (0, 0), (0, 0), (0, 0), (0, 0), (0, 0)], [], [], 0, 0, 0, [(0, .inr (3, (0, 0)))], [])
def rxe241_0_0 : rx_End × List (Nat × Int × Int) := (([(0, 0), (0, 0), (0, 0), (0, 0), (0, 0), (0, 0), (0, 0), (0, 0), (0, 400), (6, 6), ((-6), (-1))], [], [(((0, 0), 9900078000000), .inl none), (((0, 0), 933300006000000), .inl none), (((0, 0), 89999100006000000), .inl none), (((0, 0), 1851192626986356800234234225391877833944518517379736727307485184000000), .inr (0, (9, 0))), (((0, 1), 14), .inr (0, (9, 0))), (((0, 0), 0), .inr (3, (0, 1))), (((0, 0), 1851192626986356798227167157524121751206303872841384191768657923000000), .inr (0, (0, 0))), (((0, 0), 4), .inr (0, (0, 0))), (((0, 0), 1851192626986356798227167157524121751206303872841384191768657920000000), .inr (0, (8, 0)))], some (.inr (0, (10, 0)))), [])
def rxe241_0_1 : rx_End × List (Nat × Int × Int) := (([(0, 0), (0, 0), (0, 0), (0, 0), (0, 0), (0, 0), (0, 0), (0, 0), (0, 400), (0, 5), (1, 1), ((-1), 5)], [(3, (10, 0), (0, 0))], [(((0, 0), 1851192626986356799029993984671224184301589730656725205983952899000000), .inr (0, (0, 0))), (((0, 0), 8), .inr (0, (0, 0))), (((0, 0), 5400006000000), .inl none), (((0, 0), 5400042000000), .inl none), (((0, 0), 9000132000000), .inl none), (((0, 0), 918900006000000), .inl none), (((0, 0), 919800006000000), .inl none), (((0, 0), 921600006000000), .inl none), (((0, 0), 922500006000000), .inl none), (((0, 0), 923400006000000), .inl none), (((0, 0), 924300006000000), .inl none), (((0, 0), 89999100006000000), .inl none), (((0, 0), 5400006000000), .inl none), (((0, 0), 5400042000000), .inl none), (((0, 0), 6300006000000), .inl none), (((0, 0), 6300015000000), .inl none), (((0, 0), 6300024000000), .inl none), (((0, 0), 6300033000000), .inl none), (((0, 0), 6300042000000), .inl none), (((0, 0), 6300051000000), .inl none), (((0, 0), 6300060000000), .inl none), (((0, 0), 6300069000000), .inl none), (((0, 0), 6300078000000), .inl none), (((0, 0), 6300096000000), .inl none), (((0, 0), 918900006000000), .inl none), (((0, 0), 919800006000000), .inl none), (((0, 0), 921600006000000), .inl none), (((0, 0), 922500006000000), .inl none), (((0, 0), 923400006000000), .inl none), (((0, 0), 924300006000000), .inl none), (((0, 0), 930600006000000), .inl none), (((0, 0), 931500006000000), .inl none), (((0, 0), 932400006000000), .inl none), (((0, 0), 89999100006000000), .inl none), (((0, 0), 6), .inr (3, (0, 427))), (((0, 0), 3), .inr (3, (0, 411))), (((0, 0), 5), .inr (3, (0, 412))), (((0, 0), 1851192626986356800234234225391877833944518517379736727307485184000000), .inr (0, (9, 0))), (((0, 0), 0), .inr (3, (0, 1))), (((0, 0), 1851192626986356798227167157524121751206303872841384191768657923000000), .inr (0, (0, 0))), (((0, 0), 4), .inr (0, (0, 0))), (((0, 0), 1851192626986356798227167157524121751206303872841384191768657920000000), .inr (0, (8, 0)))], some (.inr (0, (11, 0)))), [])
def rxe241_0_2 : rx_End × List (Nat × Int × Int) := (([(0, 0), (0, 0), (0, 0), (0, 0), (0, 0), (0, 0), (0, 0), (0, 0), (0, 400), (0, 5), (0, 0), ((-6), (-1))], [], [(((0, 0), 9900078000000), .inl none), (((0, 0), 933300006000000), .inl none), (((0, 0), 89999100006000000), .inl none), (((0, 0), 5400006000000), .inl none), (((0, 0), 5400042000000), .inl none), (((0, 0), 6300006000000), .inl none), (((0, 0), 6300015000000), .inl none), (((0, 0), 6300024000000), .inl none), (((0, 0), 6300033000000), .inl none), (((0, 0), 6300042000000), .inl none), (((0, 0), 6300051000000), .inl none), (((0, 0), 6300060000000), .inl none), (((0, 0), 6300069000000), .inl none), (((0, 0), 6300078000000), .inl none), (((0, 0), 6300096000000), .inl none), (((0, 0), 918900006000000), .inl none), (((0, 0), 919800006000000), .inl none), (((0, 0), 921600006000000), .inl none), (((0, 0), 922500006000000), .inl none), (((0, 0), 923400006000000), .inl none), (((0, 0), 924300006000000), .inl none), (((0, 0), 930600006000000), .inl none), (((0, 0), 931500006000000), .inl none), (((0, 0), 932400006000000), .inl none), (((0, 0), 89999100006000000), .inl none), (((0, 0), 6), .inr (3, (0, 427))), (((0, 0), 3), .inr (3, (0, 411))), (((0, 0), 5), .inr (3, (0, 412))), (((0, 0), 1851192626986356800234234225391877833944518517379736727307485184000000), .inr (0, (9, 0))), (((0, 1), 14), .inr (0, (9, 0))), (((0, 0), 0), .inr (3, (0, 1))), (((0, 0), 1851192626986356798227167157524121751206303872841384191768657923000000), .inr (0, (0, 0))), (((0, 0), 4), .inr (0, (0, 0))), (((0, 0), 1851192626986356798227167157524121751206303872841384191768657920000000), .inr (0, (8, 0)))], some (.inr (0, (11, 0)))), [])
def rxY241 : List bx_HE := [(rxz241_0, [], [rxe241_0_0, rxe241_0_1, rxe241_0_2])]
def rxU241 (q : bx_HE) : Bool := false
def rxYB241 : bx_B := (rxV, rxNP, rxDmf, bx_mdH rxC241.2.2.1)
set_option maxRecDepth 100000 in
theorem rxYc241 : bx_chkH rxYB241 rxM241 rxC241 rxY241 (rxU241, fun cut z => rx_ex2 (rxCT rxYB241 rxCn) cut 30000 rxC241.2.2.2.1 241 z) = true := by decide +kernel
def rxI241 (S0 : Nat → Int → Int) (ws : List Int) (i : Nat) : bx_SP := fun S r => match i with | 0 => rxI241_0 S0 ws S | _ => False
def rxm241 (S0 : Nat → Int → Int) (ws : List Int) (i : Nat) (S : Nat → Int → Int) (r : Nat → Int) : Nat := match i with | 0 => rxm241_0 S0 ws S | _ => 0
def rxP241 (S0 : Nat → Int → Int) (ws : List Int) : Prop := True
def rxPS241 (S0 : Nat → Int → Int) (ws : List Int) (S : Nat → Int → Int) (w : Option Int) : Prop := ws = [0] ∧ True ∧ S 0 4 = 0
theorem rxd241_0_0 {S0 : Nat → Int → Int} {ws : List Int} {S T2 T1 T0 : Nat → Int → Int} {x8 x9 x10 : Int} (hP : rxP241 S0 ws) (hin : bx_same rxL (bx_mdl rxC241.2.2.1) S0 S) (hin2 : bx_same rxL (bx_mdl rxC241.2.2.1) S T0) (I0 : bx_Inv rxL S) (I1 : bx_Inv rxL T0) (hinv : rxI241_0 S0 ws S) (l8 : 0 ≤ x8) (u8 : x8 ≤ 400) (l9 : 6 ≤ x9) (u9 : x9 ≤ 6) (l10 : (-6) ≤ x10) (u10 : x10 ≤ (-1)) (e5 : S 0 4 = x8) (e3 : (bx_up S 0 4 0) 1 14 = x9) (v2 : ∀ (p i : Nat), p < rxL.2.1 → i < bx_wd (rxL.1 p) → bx_mc (rxL.1 p) i ≠ (99999, 0) → T2 p (i : Int) = (bx_up S 0 4 0) p (i : Int)) (v1 : ∀ (p i : Nat), p < rxL.2.1 → i < bx_wd (rxL.1 p) → bx_mc (rxL.1 p) i ≠ (1037, 0) → T1 p (i : Int) = T2 p (i : Int)) (v0 : ∀ (p i : Nat), p < rxL.2.1 → i < bx_wd (rxL.1 p) → bx_mc (rxL.1 p) i ≠ (11, 8) → T0 p (i : Int) = T1 p (i : Int)) : (True) ∧ rxPS241 S0 ws T0 (some x10) := by
  obtain ⟨rfl, hw⟩ := hinv
  have e3 := (show _ = S 1 14 from (bx_up_ne (by omega))).symm.trans e3
  refine ⟨trivial, hw, ⟨?_, (((v0 0 4 (by decide) (by decide) (by decide +kernel))).trans (((v1 0 4 (by decide) (by decide) (by decide +kernel))).trans (((v2 0 4 (by decide) (by decide) (by decide +kernel))).trans (bx_up_at)))).trans (by omega)⟩⟩ <;> first | omega | exact hin2 | exact congrArg some (by omega) | (intro i i0 i1; simp only [bx_up]; (repeat' split) <;> first | rfl | omega | (simp_all; done) | (simp_all; omega)) | ((repeat (first | rw [bx_up_at] | rw [bx_up_ne (by omega)])); omega) | exact True.intro
theorem rxf241_0_0 {X : (Nat → Int → Int) → Prop} {S0 : Nat → Int → Int} {ws : List Int} (hP : rxP241 S0 ws) : bx_obE rxL X S0 rxC241.2.2.1 (rxI241 S0 ws) (rxPS241 S0 ws) 0 rxz241_0 rxe241_0_0 := by
  intro S S_p r r_p hinv hX hin hsm_ hseg
  obtain ⟨I0, I1, h0_, hr_, b_, f_, d_⟩ := bx_cl (evs := [(2, (11, 0), (8, 0), .inl none), (2, (1037, 0), (0, 0), .inl none), (2, (99999, 0), (0, 0), .inl none), (0, (0, 1), (0, 14), .inr (0, (9, 0))), (1, (0, 0), (0, 4), .inr (0, (0, 0))), (0, (0, 0), (0, 4), .inr (0, (8, 0)))]) (fvs := []) hseg (by decide +kernel) (by decide +kernel)
  have hinv : rxI241_0 S0 ws S := hinv
  obtain ⟨⟨l8, u8⟩, ⟨l9, u9⟩, ⟨l10, u10⟩, -⟩ := b_
  obtain ⟨T0, ⟨T1, ⟨T2, ⟨e3, ⟨T4, ⟨e5, w_⟩, w4⟩⟩, v2⟩, v1⟩, v0⟩ := d_
  subst w4
  subst w_
  have g := rxd241_0_0 hP hin hsm_ I0 I1 hinv l8 u8 l9 u9 l10 u10 e5 e3 v2 v1 v0
  refine ⟨bx_narP_ok (l := []) g.1, ?_⟩
  show rxPS241 S0 ws S_p (some (bx_num r_p (.inr (0, (10, 0)))))
  rw [bx_xv_ok h0_]
  exact g.2
theorem rxd241_0_1 {S0 : Nat → Int → Int} {ws : List Int} {S T32 T31 T30 T29 T28 T27 T26 T25 T24 T23 T22 T21 T20 T19 T18 T17 T16 T15 T14 T13 T12 T11 T10 T9 T8 T7 T6 T5 T4 T3 T2 T1 : Nat → Int → Int} {x8 x9 x10 x11 : Int} (hP : rxP241 S0 ws) (hin : bx_same rxL (bx_mdl rxC241.2.2.1) S0 S) (hin2 : bx_same rxL (bx_mdl rxC241.2.2.1) S (bx_up T1 0 8 0)) (I0 : bx_Inv rxL S) (I1 : bx_Inv rxL (bx_up T1 0 8 0)) (hinv : rxI241_0 S0 ws S) (l8 : 0 ≤ x8) (u8 : x8 ≤ 400) (l9 : 0 ≤ x9) (u9 : x9 ≤ 5) (l10 : 1 ≤ x10) (u10 : x10 ≤ 1) (l11 : (-1) ≤ x11) (u11 : x11 ≤ 5) (f0 : x10 ≠ 0) (e35 : S 0 4 = x8) (e33 : (bx_up S 0 4 0) 1 14 = x9) (v32 : ∀ (p i : Nat), p < rxL.2.1 → i < bx_wd (rxL.1 p) → bx_mc (rxL.1 p) i ≠ (99999, 0) → T32 p (i : Int) = (bx_up S 0 4 0) p (i : Int)) (v31 : ∀ (p i : Nat), p < rxL.2.1 → i < bx_wd (rxL.1 p) → bx_mc (rxL.1 p) i ≠ (1036, 0) → T31 p (i : Int) = T32 p (i : Int)) (v30 : ∀ (p i : Nat), p < rxL.2.1 → i < bx_wd (rxL.1 p) → bx_mc (rxL.1 p) i ≠ (1035, 0) → T30 p (i : Int) = T31 p (i : Int)) (v29 : ∀ (p i : Nat), p < rxL.2.1 → i < bx_wd (rxL.1 p) → bx_mc (rxL.1 p) i ≠ (1034, 0) → T29 p (i : Int) = T30 p (i : Int)) (v28 : ∀ (p i : Nat), p < rxL.2.1 → i < bx_wd (rxL.1 p) → bx_mc (rxL.1 p) i ≠ (1027, 0) → T28 p (i : Int) = T29 p (i : Int)) (v27 : ∀ (p i : Nat), p < rxL.2.1 → i < bx_wd (rxL.1 p) → bx_mc (rxL.1 p) i ≠ (1026, 0) → T27 p (i : Int) = T28 p (i : Int)) (v26 : ∀ (p i : Nat), p < rxL.2.1 → i < bx_wd (rxL.1 p) → bx_mc (rxL.1 p) i ≠ (1025, 0) → T26 p (i : Int) = T27 p (i : Int)) (v25 : ∀ (p i : Nat), p < rxL.2.1 → i < bx_wd (rxL.1 p) → bx_mc (rxL.1 p) i ≠ (1024, 0) → T25 p (i : Int) = T26 p (i : Int)) (v24 : ∀ (p i : Nat), p < rxL.2.1 → i < bx_wd (rxL.1 p) → bx_mc (rxL.1 p) i ≠ (1022, 0) → T24 p (i : Int) = T25 p (i : Int)) (v23 : ∀ (p i : Nat), p < rxL.2.1 → i < bx_wd (rxL.1 p) → bx_mc (rxL.1 p) i ≠ (1021, 0) → T23 p (i : Int) = T24 p (i : Int)) (v22 : ∀ (p i : Nat), p < rxL.2.1 → i < bx_wd (rxL.1 p) → bx_mc (rxL.1 p) i ≠ (7, 10) → T22 p (i : Int) = T23 p (i : Int)) (v21 : ∀ (p i : Nat), p < rxL.2.1 → i < bx_wd (rxL.1 p) → bx_mc (rxL.1 p) i ≠ (7, 8) → T21 p (i : Int) = T22 p (i : Int)) (v20 : ∀ (p i : Nat), p < rxL.2.1 → i < bx_wd (rxL.1 p) → bx_mc (rxL.1 p) i ≠ (7, 7) → T20 p (i : Int) = T21 p (i : Int)) (v19 : ∀ (p i : Nat), p < rxL.2.1 → i < bx_wd (rxL.1 p) → bx_mc (rxL.1 p) i ≠ (7, 6) → T19 p (i : Int) = T20 p (i : Int)) (v18 : ∀ (p i : Nat), p < rxL.2.1 → i < bx_wd (rxL.1 p) → bx_mc (rxL.1 p) i ≠ (7, 5) → T18 p (i : Int) = T19 p (i : Int)) (v17 : ∀ (p i : Nat), p < rxL.2.1 → i < bx_wd (rxL.1 p) → bx_mc (rxL.1 p) i ≠ (7, 4) → T17 p (i : Int) = T18 p (i : Int)) (v16 : ∀ (p i : Nat), p < rxL.2.1 → i < bx_wd (rxL.1 p) → bx_mc (rxL.1 p) i ≠ (7, 3) → T16 p (i : Int) = T17 p (i : Int)) (v15 : ∀ (p i : Nat), p < rxL.2.1 → i < bx_wd (rxL.1 p) → bx_mc (rxL.1 p) i ≠ (7, 2) → T15 p (i : Int) = T16 p (i : Int)) (v14 : ∀ (p i : Nat), p < rxL.2.1 → i < bx_wd (rxL.1 p) → bx_mc (rxL.1 p) i ≠ (7, 1) → T14 p (i : Int) = T15 p (i : Int)) (v13 : ∀ (p i : Nat), p < rxL.2.1 → i < bx_wd (rxL.1 p) → bx_mc (rxL.1 p) i ≠ (7, 0) → T13 p (i : Int) = T14 p (i : Int)) (v12 : ∀ (p i : Nat), p < rxL.2.1 → i < bx_wd (rxL.1 p) → bx_mc (rxL.1 p) i ≠ (6, 4) → T12 p (i : Int) = T13 p (i : Int)) (v11 : ∀ (p i : Nat), p < rxL.2.1 → i < bx_wd (rxL.1 p) → bx_mc (rxL.1 p) i ≠ (6, 0) → T11 p (i : Int) = T12 p (i : Int)) (v10 : ∀ (p i : Nat), p < rxL.2.1 → i < bx_wd (rxL.1 p) → bx_mc (rxL.1 p) i ≠ (99999, 0) → T10 p (i : Int) = T11 p (i : Int)) (v9 : ∀ (p i : Nat), p < rxL.2.1 → i < bx_wd (rxL.1 p) → bx_mc (rxL.1 p) i ≠ (1027, 0) → T9 p (i : Int) = T10 p (i : Int)) (v8 : ∀ (p i : Nat), p < rxL.2.1 → i < bx_wd (rxL.1 p) → bx_mc (rxL.1 p) i ≠ (1026, 0) → T8 p (i : Int) = T9 p (i : Int)) (v7 : ∀ (p i : Nat), p < rxL.2.1 → i < bx_wd (rxL.1 p) → bx_mc (rxL.1 p) i ≠ (1025, 0) → T7 p (i : Int) = T8 p (i : Int)) (v6 : ∀ (p i : Nat), p < rxL.2.1 → i < bx_wd (rxL.1 p) → bx_mc (rxL.1 p) i ≠ (1024, 0) → T6 p (i : Int) = T7 p (i : Int)) (v5 : ∀ (p i : Nat), p < rxL.2.1 → i < bx_wd (rxL.1 p) → bx_mc (rxL.1 p) i ≠ (1022, 0) → T5 p (i : Int) = T6 p (i : Int)) (v4 : ∀ (p i : Nat), p < rxL.2.1 → i < bx_wd (rxL.1 p) → bx_mc (rxL.1 p) i ≠ (1021, 0) → T4 p (i : Int) = T5 p (i : Int)) (v3 : ∀ (p i : Nat), p < rxL.2.1 → i < bx_wd (rxL.1 p) → bx_mc (rxL.1 p) i ≠ (10, 14) → T3 p (i : Int) = T4 p (i : Int)) (v2 : ∀ (p i : Nat), p < rxL.2.1 → i < bx_wd (rxL.1 p) → bx_mc (rxL.1 p) i ≠ (6, 4) → T2 p (i : Int) = T3 p (i : Int)) (v1 : ∀ (p i : Nat), p < rxL.2.1 → i < bx_wd (rxL.1 p) → bx_mc (rxL.1 p) i ≠ (6, 0) → T1 p (i : Int) = T2 p (i : Int)) : (True) ∧ rxPS241 S0 ws (bx_up T1 0 8 0) (some x11) := by
  obtain ⟨rfl, hw⟩ := hinv
  have e33 := (show _ = S 1 14 from (bx_up_ne (by omega))).symm.trans e33
  refine ⟨trivial, hw, ⟨?_, ((bx_up_ne (by omega)).trans (((v1 0 4 (by decide) (by decide) (by decide +kernel))).trans (((v2 0 4 (by decide) (by decide) (by decide +kernel))).trans (((v3 0 4 (by decide) (by decide) (by decide +kernel))).trans (((v4 0 4 (by decide) (by decide) (by decide +kernel))).trans (((v5 0 4 (by decide) (by decide) (by decide +kernel))).trans (((v6 0 4 (by decide) (by decide) (by decide +kernel))).trans (((v7 0 4 (by decide) (by decide) (by decide +kernel))).trans (((v8 0 4 (by decide) (by decide) (by decide +kernel))).trans (((v9 0 4 (by decide) (by decide) (by decide +kernel))).trans (((v10 0 4 (by decide) (by decide) (by decide +kernel))).trans (((v11 0 4 (by decide) (by decide) (by decide +kernel))).trans (((v12 0 4 (by decide) (by decide) (by decide +kernel))).trans (((v13 0 4 (by decide) (by decide) (by decide +kernel))).trans (((v14 0 4 (by decide) (by decide) (by decide +kernel))).trans (((v15 0 4 (by decide) (by decide) (by decide +kernel))).trans (((v16 0 4 (by decide) (by decide) (by decide +kernel))).trans (((v17 0 4 (by decide) (by decide) (by decide +kernel))).trans (((v18 0 4 (by decide) (by decide) (by decide +kernel))).trans (((v19 0 4 (by decide) (by decide) (by decide +kernel))).trans (((v20 0 4 (by decide) (by decide) (by decide +kernel))).trans (((v21 0 4 (by decide) (by decide) (by decide +kernel))).trans (((v22 0 4 (by decide) (by decide) (by decide +kernel))).trans (((v23 0 4 (by decide) (by decide) (by decide +kernel))).trans (((v24 0 4 (by decide) (by decide) (by decide +kernel))).trans (((v25 0 4 (by decide) (by decide) (by decide +kernel))).trans (((v26 0 4 (by decide) (by decide) (by decide +kernel))).trans (((v27 0 4 (by decide) (by decide) (by decide +kernel))).trans (((v28 0 4 (by decide) (by decide) (by decide +kernel))).trans (((v29 0 4 (by decide) (by decide) (by decide +kernel))).trans (((v30 0 4 (by decide) (by decide) (by decide +kernel))).trans (((v31 0 4 (by decide) (by decide) (by decide +kernel))).trans (((v32 0 4 (by decide) (by decide) (by decide +kernel))).trans (bx_up_at)))))))))))))))))))))))))))))))))).trans (by omega)⟩⟩ <;> first | omega | exact hin2 | exact congrArg some (by omega) | (intro i i0 i1; simp only [bx_up]; (repeat' split) <;> first | rfl | omega | (simp_all; done) | (simp_all; omega)) | ((repeat (first | rw [bx_up_at] | rw [bx_up_ne (by omega)])); omega) | exact True.intro
theorem rxf241_0_1 {X : (Nat → Int → Int) → Prop} {S0 : Nat → Int → Int} {ws : List Int} (hP : rxP241 S0 ws) : bx_obE rxL X S0 rxC241.2.2.1 (rxI241 S0 ws) (rxPS241 S0 ws) 0 rxz241_0 rxe241_0_1 := by
  intro S S_p r r_p hinv hX hin hsm_ hseg
  obtain ⟨I0, I1, h0_, hr_, b_, f_, d_⟩ := bx_cl (evs := [(1, (0, 0), (0, 8), .inr (0, (0, 0))), (2, (6, 0), (0, 0), .inl none), (2, (6, 0), (4, 0), .inl none), (2, (10, 0), (14, 0), .inl none), (2, (1021, 0), (0, 0), .inl none), (2, (1022, 0), (0, 0), .inl none), (2, (1024, 0), (0, 0), .inl none), (2, (1025, 0), (0, 0), .inl none), (2, (1026, 0), (0, 0), .inl none), (2, (1027, 0), (0, 0), .inl none), (2, (99999, 0), (0, 0), .inl none), (2, (6, 0), (0, 0), .inl none), (2, (6, 0), (4, 0), .inl none), (2, (7, 0), (0, 0), .inl none), (2, (7, 0), (1, 0), .inl none), (2, (7, 0), (2, 0), .inl none), (2, (7, 0), (3, 0), .inl none), (2, (7, 0), (4, 0), .inl none), (2, (7, 0), (5, 0), .inl none), (2, (7, 0), (6, 0), .inl none), (2, (7, 0), (7, 0), .inl none), (2, (7, 0), (8, 0), .inl none), (2, (7, 0), (10, 0), .inl none), (2, (1021, 0), (0, 0), .inl none), (2, (1022, 0), (0, 0), .inl none), (2, (1024, 0), (0, 0), .inl none), (2, (1025, 0), (0, 0), .inl none), (2, (1026, 0), (0, 0), .inl none), (2, (1027, 0), (0, 0), .inl none), (2, (1034, 0), (0, 0), .inl none), (2, (1035, 0), (0, 0), .inl none), (2, (1036, 0), (0, 0), .inl none), (2, (99999, 0), (0, 0), .inl none), (0, (0, 1), (0, 14), .inr (0, (9, 0))), (1, (0, 0), (0, 4), .inr (0, (0, 0))), (0, (0, 0), (0, 4), .inr (0, (8, 0)))]) (fvs := [(3, (10, 0), (0, 0), (0, 0))]) hseg (by decide +kernel) (by decide +kernel)
  have hinv : rxI241_0 S0 ws S := hinv
  obtain ⟨⟨l8, u8⟩, ⟨l9, u9⟩, ⟨l10, u10⟩, ⟨l11, u11⟩, -⟩ := b_
  obtain ⟨f0, -⟩ := f_
  obtain ⟨T0, ⟨T1, ⟨T2, ⟨T3, ⟨T4, ⟨T5, ⟨T6, ⟨T7, ⟨T8, ⟨T9, ⟨T10, ⟨T11, ⟨T12, ⟨T13, ⟨T14, ⟨T15, ⟨T16, ⟨T17, ⟨T18, ⟨T19, ⟨T20, ⟨T21, ⟨T22, ⟨T23, ⟨T24, ⟨T25, ⟨T26, ⟨T27, ⟨T28, ⟨T29, ⟨T30, ⟨T31, ⟨T32, ⟨e33, ⟨T34, ⟨e35, w_⟩, w34⟩⟩, v32⟩, v31⟩, v30⟩, v29⟩, v28⟩, v27⟩, v26⟩, v25⟩, v24⟩, v23⟩, v22⟩, v21⟩, v20⟩, v19⟩, v18⟩, v17⟩, v16⟩, v15⟩, v14⟩, v13⟩, v12⟩, v11⟩, v10⟩, v9⟩, v8⟩, v7⟩, v6⟩, v5⟩, v4⟩, v3⟩, v2⟩, v1⟩, w0⟩ := d_
  subst w0
  subst w34
  subst w_
  have g := rxd241_0_1 hP hin hsm_ I0 I1 hinv l8 u8 l9 u9 l10 u10 l11 u11 f0 e35 e33 v32 v31 v30 v29 v28 v27 v26 v25 v24 v23 v22 v21 v20 v19 v18 v17 v16 v15 v14 v13 v12 v11 v10 v9 v8 v7 v6 v5 v4 v3 v2 v1
  refine ⟨bx_narP_ok (l := []) g.1, ?_⟩
  show rxPS241 S0 ws (bx_up T0 0 (8) (0)) (some (bx_num r_p (.inr (0, (11, 0)))))
  rw [bx_xv_ok h0_]
  exact g.2
theorem rxd241_0_2 {S0 : Nat → Int → Int} {ws : List Int} {S T24 T23 T22 T21 T20 T19 T18 T17 T16 T15 T14 T13 T12 T11 T10 T9 T8 T7 T6 T5 T4 T3 T2 T1 T0 : Nat → Int → Int} {x8 x9 x10 x11 : Int} (hP : rxP241 S0 ws) (hin : bx_same rxL (bx_mdl rxC241.2.2.1) S0 S) (hin2 : bx_same rxL (bx_mdl rxC241.2.2.1) S T0) (I0 : bx_Inv rxL S) (I1 : bx_Inv rxL T0) (hinv : rxI241_0 S0 ws S) (l8 : 0 ≤ x8) (u8 : x8 ≤ 400) (l9 : 0 ≤ x9) (u9 : x9 ≤ 5) (l10 : 0 ≤ x10) (u10 : x10 ≤ 0) (l11 : (-6) ≤ x11) (u11 : x11 ≤ (-1)) (e27 : S 0 4 = x8) (e25 : (bx_up S 0 4 0) 1 14 = x9) (v24 : ∀ (p i : Nat), p < rxL.2.1 → i < bx_wd (rxL.1 p) → bx_mc (rxL.1 p) i ≠ (99999, 0) → T24 p (i : Int) = (bx_up S 0 4 0) p (i : Int)) (v23 : ∀ (p i : Nat), p < rxL.2.1 → i < bx_wd (rxL.1 p) → bx_mc (rxL.1 p) i ≠ (1036, 0) → T23 p (i : Int) = T24 p (i : Int)) (v22 : ∀ (p i : Nat), p < rxL.2.1 → i < bx_wd (rxL.1 p) → bx_mc (rxL.1 p) i ≠ (1035, 0) → T22 p (i : Int) = T23 p (i : Int)) (v21 : ∀ (p i : Nat), p < rxL.2.1 → i < bx_wd (rxL.1 p) → bx_mc (rxL.1 p) i ≠ (1034, 0) → T21 p (i : Int) = T22 p (i : Int)) (v20 : ∀ (p i : Nat), p < rxL.2.1 → i < bx_wd (rxL.1 p) → bx_mc (rxL.1 p) i ≠ (1027, 0) → T20 p (i : Int) = T21 p (i : Int)) (v19 : ∀ (p i : Nat), p < rxL.2.1 → i < bx_wd (rxL.1 p) → bx_mc (rxL.1 p) i ≠ (1026, 0) → T19 p (i : Int) = T20 p (i : Int)) (v18 : ∀ (p i : Nat), p < rxL.2.1 → i < bx_wd (rxL.1 p) → bx_mc (rxL.1 p) i ≠ (1025, 0) → T18 p (i : Int) = T19 p (i : Int)) (v17 : ∀ (p i : Nat), p < rxL.2.1 → i < bx_wd (rxL.1 p) → bx_mc (rxL.1 p) i ≠ (1024, 0) → T17 p (i : Int) = T18 p (i : Int)) (v16 : ∀ (p i : Nat), p < rxL.2.1 → i < bx_wd (rxL.1 p) → bx_mc (rxL.1 p) i ≠ (1022, 0) → T16 p (i : Int) = T17 p (i : Int)) (v15 : ∀ (p i : Nat), p < rxL.2.1 → i < bx_wd (rxL.1 p) → bx_mc (rxL.1 p) i ≠ (1021, 0) → T15 p (i : Int) = T16 p (i : Int)) (v14 : ∀ (p i : Nat), p < rxL.2.1 → i < bx_wd (rxL.1 p) → bx_mc (rxL.1 p) i ≠ (7, 10) → T14 p (i : Int) = T15 p (i : Int)) (v13 : ∀ (p i : Nat), p < rxL.2.1 → i < bx_wd (rxL.1 p) → bx_mc (rxL.1 p) i ≠ (7, 8) → T13 p (i : Int) = T14 p (i : Int)) (v12 : ∀ (p i : Nat), p < rxL.2.1 → i < bx_wd (rxL.1 p) → bx_mc (rxL.1 p) i ≠ (7, 7) → T12 p (i : Int) = T13 p (i : Int)) (v11 : ∀ (p i : Nat), p < rxL.2.1 → i < bx_wd (rxL.1 p) → bx_mc (rxL.1 p) i ≠ (7, 6) → T11 p (i : Int) = T12 p (i : Int)) (v10 : ∀ (p i : Nat), p < rxL.2.1 → i < bx_wd (rxL.1 p) → bx_mc (rxL.1 p) i ≠ (7, 5) → T10 p (i : Int) = T11 p (i : Int)) (v9 : ∀ (p i : Nat), p < rxL.2.1 → i < bx_wd (rxL.1 p) → bx_mc (rxL.1 p) i ≠ (7, 4) → T9 p (i : Int) = T10 p (i : Int)) (v8 : ∀ (p i : Nat), p < rxL.2.1 → i < bx_wd (rxL.1 p) → bx_mc (rxL.1 p) i ≠ (7, 3) → T8 p (i : Int) = T9 p (i : Int)) (v7 : ∀ (p i : Nat), p < rxL.2.1 → i < bx_wd (rxL.1 p) → bx_mc (rxL.1 p) i ≠ (7, 2) → T7 p (i : Int) = T8 p (i : Int)) (v6 : ∀ (p i : Nat), p < rxL.2.1 → i < bx_wd (rxL.1 p) → bx_mc (rxL.1 p) i ≠ (7, 1) → T6 p (i : Int) = T7 p (i : Int)) (v5 : ∀ (p i : Nat), p < rxL.2.1 → i < bx_wd (rxL.1 p) → bx_mc (rxL.1 p) i ≠ (7, 0) → T5 p (i : Int) = T6 p (i : Int)) (v4 : ∀ (p i : Nat), p < rxL.2.1 → i < bx_wd (rxL.1 p) → bx_mc (rxL.1 p) i ≠ (6, 4) → T4 p (i : Int) = T5 p (i : Int)) (v3 : ∀ (p i : Nat), p < rxL.2.1 → i < bx_wd (rxL.1 p) → bx_mc (rxL.1 p) i ≠ (6, 0) → T3 p (i : Int) = T4 p (i : Int)) (v2 : ∀ (p i : Nat), p < rxL.2.1 → i < bx_wd (rxL.1 p) → bx_mc (rxL.1 p) i ≠ (99999, 0) → T2 p (i : Int) = T3 p (i : Int)) (v1 : ∀ (p i : Nat), p < rxL.2.1 → i < bx_wd (rxL.1 p) → bx_mc (rxL.1 p) i ≠ (1037, 0) → T1 p (i : Int) = T2 p (i : Int)) (v0 : ∀ (p i : Nat), p < rxL.2.1 → i < bx_wd (rxL.1 p) → bx_mc (rxL.1 p) i ≠ (11, 8) → T0 p (i : Int) = T1 p (i : Int)) : (True) ∧ rxPS241 S0 ws T0 (some x11) := by
  obtain ⟨rfl, hw⟩ := hinv
  have e25 := (show _ = S 1 14 from (bx_up_ne (by omega))).symm.trans e25
  refine ⟨trivial, hw, ⟨?_, (((v0 0 4 (by decide) (by decide) (by decide +kernel))).trans (((v1 0 4 (by decide) (by decide) (by decide +kernel))).trans (((v2 0 4 (by decide) (by decide) (by decide +kernel))).trans (((v3 0 4 (by decide) (by decide) (by decide +kernel))).trans (((v4 0 4 (by decide) (by decide) (by decide +kernel))).trans (((v5 0 4 (by decide) (by decide) (by decide +kernel))).trans (((v6 0 4 (by decide) (by decide) (by decide +kernel))).trans (((v7 0 4 (by decide) (by decide) (by decide +kernel))).trans (((v8 0 4 (by decide) (by decide) (by decide +kernel))).trans (((v9 0 4 (by decide) (by decide) (by decide +kernel))).trans (((v10 0 4 (by decide) (by decide) (by decide +kernel))).trans (((v11 0 4 (by decide) (by decide) (by decide +kernel))).trans (((v12 0 4 (by decide) (by decide) (by decide +kernel))).trans (((v13 0 4 (by decide) (by decide) (by decide +kernel))).trans (((v14 0 4 (by decide) (by decide) (by decide +kernel))).trans (((v15 0 4 (by decide) (by decide) (by decide +kernel))).trans (((v16 0 4 (by decide) (by decide) (by decide +kernel))).trans (((v17 0 4 (by decide) (by decide) (by decide +kernel))).trans (((v18 0 4 (by decide) (by decide) (by decide +kernel))).trans (((v19 0 4 (by decide) (by decide) (by decide +kernel))).trans (((v20 0 4 (by decide) (by decide) (by decide +kernel))).trans (((v21 0 4 (by decide) (by decide) (by decide +kernel))).trans (((v22 0 4 (by decide) (by decide) (by decide +kernel))).trans (((v23 0 4 (by decide) (by decide) (by decide +kernel))).trans (((v24 0 4 (by decide) (by decide) (by decide +kernel))).trans (bx_up_at)))))))))))))))))))))))))).trans (by omega)⟩⟩ <;> first | omega | exact hin2 | exact congrArg some (by omega) | (intro i i0 i1; simp only [bx_up]; (repeat' split) <;> first | rfl | omega | (simp_all; done) | (simp_all; omega)) | ((repeat (first | rw [bx_up_at] | rw [bx_up_ne (by omega)])); omega) | exact True.intro
theorem rxf241_0_2 {X : (Nat → Int → Int) → Prop} {S0 : Nat → Int → Int} {ws : List Int} (hP : rxP241 S0 ws) : bx_obE rxL X S0 rxC241.2.2.1 (rxI241 S0 ws) (rxPS241 S0 ws) 0 rxz241_0 rxe241_0_2 := by
  intro S S_p r r_p hinv hX hin hsm_ hseg
  obtain ⟨I0, I1, h0_, hr_, b_, f_, d_⟩ := bx_cl (evs := [(2, (11, 0), (8, 0), .inl none), (2, (1037, 0), (0, 0), .inl none), (2, (99999, 0), (0, 0), .inl none), (2, (6, 0), (0, 0), .inl none), (2, (6, 0), (4, 0), .inl none), (2, (7, 0), (0, 0), .inl none), (2, (7, 0), (1, 0), .inl none), (2, (7, 0), (2, 0), .inl none), (2, (7, 0), (3, 0), .inl none), (2, (7, 0), (4, 0), .inl none), (2, (7, 0), (5, 0), .inl none), (2, (7, 0), (6, 0), .inl none), (2, (7, 0), (7, 0), .inl none), (2, (7, 0), (8, 0), .inl none), (2, (7, 0), (10, 0), .inl none), (2, (1021, 0), (0, 0), .inl none), (2, (1022, 0), (0, 0), .inl none), (2, (1024, 0), (0, 0), .inl none), (2, (1025, 0), (0, 0), .inl none), (2, (1026, 0), (0, 0), .inl none), (2, (1027, 0), (0, 0), .inl none), (2, (1034, 0), (0, 0), .inl none), (2, (1035, 0), (0, 0), .inl none), (2, (1036, 0), (0, 0), .inl none), (2, (99999, 0), (0, 0), .inl none), (0, (0, 1), (0, 14), .inr (0, (9, 0))), (1, (0, 0), (0, 4), .inr (0, (0, 0))), (0, (0, 0), (0, 4), .inr (0, (8, 0)))]) (fvs := []) hseg (by decide +kernel) (by decide +kernel)
  have hinv : rxI241_0 S0 ws S := hinv
  obtain ⟨⟨l8, u8⟩, ⟨l9, u9⟩, ⟨l10, u10⟩, ⟨l11, u11⟩, -⟩ := b_
  obtain ⟨T0, ⟨T1, ⟨T2, ⟨T3, ⟨T4, ⟨T5, ⟨T6, ⟨T7, ⟨T8, ⟨T9, ⟨T10, ⟨T11, ⟨T12, ⟨T13, ⟨T14, ⟨T15, ⟨T16, ⟨T17, ⟨T18, ⟨T19, ⟨T20, ⟨T21, ⟨T22, ⟨T23, ⟨T24, ⟨e25, ⟨T26, ⟨e27, w_⟩, w26⟩⟩, v24⟩, v23⟩, v22⟩, v21⟩, v20⟩, v19⟩, v18⟩, v17⟩, v16⟩, v15⟩, v14⟩, v13⟩, v12⟩, v11⟩, v10⟩, v9⟩, v8⟩, v7⟩, v6⟩, v5⟩, v4⟩, v3⟩, v2⟩, v1⟩, v0⟩ := d_
  subst w26
  subst w_
  have g := rxd241_0_2 hP hin hsm_ I0 I1 hinv l8 u8 l9 u9 l10 u10 l11 u11 e27 e25 v24 v23 v22 v21 v20 v19 v18 v17 v16 v15 v14 v13 v12 v11 v10 v9 v8 v7 v6 v5 v4 v3 v2 v1 v0
  refine ⟨bx_narP_ok (l := []) g.1, ?_⟩
  show rxPS241 S0 ws S_p (some (bx_num r_p (.inr (0, (11, 0)))))
  rw [bx_xv_ok h0_]
  exact g.2
theorem rxgC241 {X : (Nat → Int → Int) → Prop} {S0 : Nat → Int → Int} {ws : List Int} (hP : rxP241 S0 ws) : bx_allI (fun i q => rxU241 q = true ∨ bx_allP (fun o => bx_obC rxL X S0 rxC241.2.2.1 (rxI241 S0 ws) (rxm241 S0 ws) i q.1 o) q.2.1) 0 rxY241 := ⟨Or.inr trivial, trivial⟩
theorem rxgE241 {X : (Nat → Int → Int) → Prop} {S0 : Nat → Int → Int} {ws : List Int} (hP : rxP241 S0 ws) : bx_allI (fun i q => rxU241 q = true ∨ bx_allP (fun E => bx_obE rxL X S0 rxC241.2.2.1 (rxI241 S0 ws) (rxPS241 S0 ws) i q.1 E) q.2.2) 0 rxY241 := ⟨Or.inr ⟨rxf241_0_0 hP, rxf241_0_1 hP, rxf241_0_2 hP, trivial⟩, trivial⟩
theorem rxQ241 {PX : State → Prop} {Dg : va_G} {A : Nat → Prop} {ad xa : Nat → Nat} {l : Launch} {X : (Nat → Int → Int) → Prop} (hPX : rx_PXOK rxNW A PX) (hsl : ∀ s : State, PX s → ∀ o idx n : Nat, rxSl o idx = some n → ∃ tx : String, vk_R (rxNm o) idx tx (ad n) s)
    (hX : ∀ S S_p : Nat → Int → Int, X S → bx_same rxL (bx_mdl rxC241.2.2.1) S S_p → X S_p)
    (ih : ∀ (j2 : Nat) (ct2 : bx_Ct) (M2 : rx_Mt), ct2 ∈ rxCn j2 → ct2.2.2.2.1 + 1 ≤ rxC241.2.2.2.1 → rxT.2.2.2.2.2 j2 = some M2 → bx_Con rxG rxNW rxAO PX Dg rxL X vwCl A ad l M2 ct2) : bx_ConP rxG rxNW rxAO PX Dg rxL X vwCl A ad l rxM241 rxC241 rxP241 rxPS241 :=
  rxQof (xa := xa) (Cn := rxCn) (f := 30000) (j := 241) (tab := rxY241) (us := rxU241) hPX hsl hX ih rfl rxYc241 rxI241 rxm241
    (fun S0 ws r I0 I ht0 ht as he he1 hX0 hI0 hP hs ha => by
      have e := he.symm.trans (show bx_ent0 rxNP rxC241.1 bx_I0 [] = some ([(0, 0), (0, 0), (0, 0), (0, 0), (0, 0), (0, 0), (0, 0), (0, 0)], [], [.inr (3, (0, 0))]) from rfl)
      cases e
      subst ha
      have h0 : r 0 = 0 := hs.1
      show rxI241_0 S0 _ S0
      refine ⟨rfl, ?_⟩
      simp only [List.map_cons, List.map_nil, bx_xv_ok h0]
      rfl)
    (fun S0 ws hP => fun i q hq hus => absurd (show false = true from hus) Bool.false_ne_true) (fun S0 ws hP => rxgC241 hP) (fun S0 ws hP => rxgE241 hP)
set_option maxHeartbeats 1000000 in
theorem rzQ241 {PX : State → Prop} {Dg : va_G} {A : Nat → Prop} {ad : Nat → Nat} {l : Launch} (hPX : rx_PXOK rxNW A PX) (hsl : ∀ s : State, PX s → ∀ o idx n : Nat, rxSl o idx = some n → ∃ tx : String, vk_R (rxNm o) idx tx (ad n) s) (ih : ∀ (j : Nat) (ct : bx_Ct) (M : rx_Mt), ct ∈ rxCn j → rxT.2.2.2.2.2 j = some M → bx_Con rxG rxNW rxAO PX Dg rxL rxX vwCl A ad l M ct) : bx_ConP rxG rxNW rxAO PX Dg rxL rxX vwCl A ad l rxM241 rxC241 (fun _ _ => True) rxPS241 := by
  have q241 := rxQ241 (PX := PX) (Dg := Dg) (A := A) (ad := ad) (xa := fun n => n) (l := l) (X := rxX) hPX hsl (fun _ _ h hm => rxX_of (by decide +kernel) h hm) (fun j2 ct2 M2 hc hd hM => ih j2 ct2 M2 hc hM)
  exact fun S0 ws h1 h2 h3 _ => q241 S0 ws h1 h2 h3 trivial
