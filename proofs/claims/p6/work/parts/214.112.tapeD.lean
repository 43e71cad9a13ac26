/-! CONTRACT BY HAND, by program (wip/sim/genhand.py): DeadUnderstudies.end -/
def rxI233_0 (S0 : Nat → Int → Int) (ws : List Int) (S : Nat → Int → Int) (m : Int) : Prop := S = S0 ∧ ws = [0, m]
def rxm233_0 (S0 : Nat → Int → Int) (ws : List Int) (S : Nat → Int → Int) (m : Int) : Nat := 100
def rxz233_0 : rx_Z := ([(0, 0), (0, 0), (0, 0), (0, 0), (0, 0), (0, 0), (0, 0), (0, 0), ((-2147483648), 2147483647)], [], [], 0, 0, 0, [(0, .inr (3, (0, 0))), (1, .inr (0, (8, 0)))], [])
def rxe233_0_0 : rx_End × List (Nat × Int × Int) := (([(0, 0), (0, 0), (0, 0), (0, 0), (0, 0), (0, 0), (0, 0), (0, 0), (1, 2147483647), (0, 400)], [(0, (9, 0), (8, 0))], [(((0, 0), 1851192626986356798227167157524121751206303872841384191768657920000000), .inr (0, (9, 0))), (((0, 0), 4), .inr (0, (9, 0)))], some (.inr (0, (0, (-1))))), [])
def rxe233_0_1 : rx_End × List (Nat × Int × Int) := (([(0, 0), (0, 0), (0, 0), (0, 0), (0, 0), (0, 0), (0, 0), (0, 0), (0, 400), (0, 400)], [(1, (8, 0), (9, 0))], [(((0, 0), 1851192626986356798227167157524121751206303872841384191768657923000000), .inr (0, (8, 0))), (((0, 0), 4), .inr (0, (8, 0))), (((0, 0), 1851192626986356798227167157524121751206303872841384191768657920000000), .inr (0, (9, 0)))], some (.inr (0, (8, 0)))), [])
def rxe233_0_2 : rx_End × List (Nat × Int × Int) := (([(0, 0), (0, 0), (0, 0), (0, 0), (0, 0), (0, 0), (0, 0), (0, 0), ((-2147483648), (-1))], [], [], some (.inr (0, (0, (-1))))), [])
def rxY233 : List bx_HE := [(rxz233_0, [], [rxe233_0_0, rxe233_0_1, rxe233_0_2])]
def rxU233 (q : bx_HE) : Bool := false
def rxYB233 : bx_B := (rxV, rxNP, rxDmf, bx_mdH rxC233.2.2.1)
set_option maxRecDepth 100000 in
theorem rxYc233 : bx_chkH rxYB233 rxM233 rxC233 rxY233 (rxU233, fun cut z => rx_ex2 (rxCT rxYB233 rxCnE) cut 30000 rxC233.2.2.2.1 233 z) = true := by decide +kernel
def rxI233 (S0 : Nat → Int → Int) (ws : List Int) (i : Nat) : bx_SP := fun S r => match i with | 0 => rxI233_0 S0 ws S (r 8) | _ => False
def rxm233 (S0 : Nat → Int → Int) (ws : List Int) (i : Nat) (S : Nat → Int → Int) (r : Nat → Int) : Nat := match i with | 0 => rxm233_0 S0 ws S (r 8) | _ => 0
def rxP233 (S0 : Nat → Int → Int) (ws : List Int) : Prop := True
def rxPS233 (S0 : Nat → Int → Int) (ws : List Int) (S : Nat → Int → Int) (w : Option Int) : Prop := ∃ m : Int, ws = [0, m] ∧ (((m < 0 ∨ S0 0 4 < m) ∧ w = some (-1) ∧ S = S0) ∨ (0 ≤ m ∧ m ≤ S0 0 4 ∧ w = some m ∧ S 0 4 = m))
theorem rxd233_0_0 {S0 : Nat → Int → Int} {ws : List Int} {S : Nat → Int → Int} {m x9 : Int} (hP : rxP233 S0 ws) (hin : bx_same rxL (bx_mdl rxC233.2.2.1) S0 S) (hin2 : bx_same rxL (bx_mdl rxC233.2.2.1) S S) (I0 : bx_Inv rxL S) (I1 : bx_Inv rxL S) (hinv : rxI233_0 S0 ws S m) (l8 : 1 ≤ m) (u8 : m ≤ 2147483647) (l9 : 0 ≤ x9) (u9 : x9 ≤ 400) (f0 : x9 < m) (e0 : S 0 4 = x9) : (True) ∧ rxPS233 S0 ws S (some ((-1))) := by
  obtain ⟨rfl, hw⟩ := hinv
  exact ⟨trivial, m, hw, Or.inl ⟨by omega, rfl, rfl⟩⟩
theorem rxf233_0_0 {X : (Nat → Int → Int) → Prop} {S0 : Nat → Int → Int} {ws : List Int} (hP : rxP233 S0 ws) : bx_obE rxL X S0 rxC233.2.2.1 (rxI233 S0 ws) (rxPS233 S0 ws) 0 rxz233_0 rxe233_0_0 := by
  intro S S_p r r_p hinv hX hin hsm_ hseg
  obtain ⟨I0, I1, h0_, hr_, b_, f_, d_⟩ := bx_cl (evs := [(0, (0, 0), (0, 4), .inr (0, (9, 0)))]) (fvs := [(0, (9, 0), (8, 0), (0, 0))]) hseg (by decide +kernel) (by decide +kernel)
  have hinv : rxI233_0 S0 ws S (r 8) := hinv
  rw [← hr_ 8 (by decide)] at hinv
  obtain ⟨⟨l8, u8⟩, ⟨l9, u9⟩, -⟩ := b_
  obtain ⟨f0, -⟩ := f_
  obtain ⟨e0, w_⟩ := d_
  subst w_
  have g := rxd233_0_0 hP hin hsm_ I0 I1 hinv l8 u8 l9 u9 f0 e0
  refine ⟨bx_narP_ok (l := []) g.1, ?_⟩
  show rxPS233 S0 ws S_p (some (bx_num r_p (.inr (0, (0, (-1))))))
  rw [bx_xv_ok h0_]
  exact g.2
theorem rxd233_0_1 {S0 : Nat → Int → Int} {ws : List Int} {S : Nat → Int → Int} {m x9 : Int} (hP : rxP233 S0 ws) (hin : bx_same rxL (bx_mdl rxC233.2.2.1) S0 S) (hin2 : bx_same rxL (bx_mdl rxC233.2.2.1) S (bx_up S 0 4 m)) (I0 : bx_Inv rxL S) (I1 : bx_Inv rxL (bx_up S 0 4 m)) (hinv : rxI233_0 S0 ws S m) (l8 : 0 ≤ m) (u8 : m ≤ 400) (l9 : 0 ≤ x9) (u9 : x9 ≤ 400) (f0 : m ≤ x9) (e1 : S 0 4 = x9) : (True) ∧ rxPS233 S0 ws (bx_up S 0 4 m) (some m) := by
  obtain ⟨rfl, hw⟩ := hinv
  exact ⟨trivial, m, hw, Or.inr ⟨by omega, by omega, rfl, bx_up_at⟩⟩
theorem rxf233_0_1 {X : (Nat → Int → Int) → Prop} {S0 : Nat → Int → Int} {ws : List Int} (hP : rxP233 S0 ws) : bx_obE rxL X S0 rxC233.2.2.1 (rxI233 S0 ws) (rxPS233 S0 ws) 0 rxz233_0 rxe233_0_1 := by
  intro S S_p r r_p hinv hX hin hsm_ hseg
  obtain ⟨I0, I1, h0_, hr_, b_, f_, d_⟩ := bx_cl (evs := [(1, (0, 0), (0, 4), .inr (0, (8, 0))), (0, (0, 0), (0, 4), .inr (0, (9, 0)))]) (fvs := [(1, (8, 0), (9, 0), (0, 0))]) hseg (by decide +kernel) (by decide +kernel)
  have hinv : rxI233_0 S0 ws S (r 8) := hinv
  rw [← hr_ 8 (by decide)] at hinv
  obtain ⟨⟨l8, u8⟩, ⟨l9, u9⟩, -⟩ := b_
  obtain ⟨f0, -⟩ := f_
  obtain ⟨T0, ⟨e1, w_⟩, w0⟩ := d_
  subst w0
  subst w_
  have g := rxd233_0_1 hP hin hsm_ I0 I1 hinv l8 u8 l9 u9 f0 e1
  refine ⟨bx_narP_ok (l := []) g.1, ?_⟩
  show rxPS233 S0 ws (bx_up T0 0 (4) (r_p 8)) (some (bx_num r_p (.inr (0, (8, 0)))))
  rw [bx_xv_ok h0_]
  exact g.2
theorem rxd233_0_2 {S0 : Nat → Int → Int} {ws : List Int} {S : Nat → Int → Int} {m : Int} (hP : rxP233 S0 ws) (hin : bx_same rxL (bx_mdl rxC233.2.2.1) S0 S) (hin2 : bx_same rxL (bx_mdl rxC233.2.2.1) S S) (I0 : bx_Inv rxL S) (I1 : bx_Inv rxL S) (hinv : rxI233_0 S0 ws S m) (l8 : (-2147483648) ≤ m) (u8 : m ≤ (-1)) : (True) ∧ rxPS233 S0 ws S (some ((-1))) := by
  obtain ⟨rfl, hw⟩ := hinv
  exact ⟨trivial, m, hw, Or.inl ⟨by omega, rfl, rfl⟩⟩
theorem rxf233_0_2 {X : (Nat → Int → Int) → Prop} {S0 : Nat → Int → Int} {ws : List Int} (hP : rxP233 S0 ws) : bx_obE rxL X S0 rxC233.2.2.1 (rxI233 S0 ws) (rxPS233 S0 ws) 0 rxz233_0 rxe233_0_2 := by
  intro S S_p r r_p hinv hX hin hsm_ hseg
  obtain ⟨I0, I1, h0_, hr_, b_, f_, d_⟩ := bx_cl (evs := []) (fvs := []) hseg (by decide +kernel) (by decide +kernel)
  have hinv : rxI233_0 S0 ws S (r 8) := hinv
  rw [← hr_ 8 (by decide)] at hinv
  obtain ⟨⟨l8, u8⟩, -⟩ := b_
  have w_ := d_
  subst w_
  have g := rxd233_0_2 hP hin hsm_ I0 I1 hinv l8 u8
  refine ⟨bx_narP_ok (l := []) g.1, ?_⟩
  show rxPS233 S0 ws S_p (some (bx_num r_p (.inr (0, (0, (-1))))))
  rw [bx_xv_ok h0_]
  exact g.2
theorem rxgC233 {X : (Nat → Int → Int) → Prop} {S0 : Nat → Int → Int} {ws : List Int} (hP : rxP233 S0 ws) : bx_allI (fun i q => rxU233 q = true ∨ bx_allP (fun o => bx_obC rxL X S0 rxC233.2.2.1 (rxI233 S0 ws) (rxm233 S0 ws) i q.1 o) q.2.1) 0 rxY233 := ⟨Or.inr trivial, trivial⟩
theorem rxgE233 {X : (Nat → Int → Int) → Prop} {S0 : Nat → Int → Int} {ws : List Int} (hP : rxP233 S0 ws) : bx_allI (fun i q => rxU233 q = true ∨ bx_allP (fun E => bx_obE rxL X S0 rxC233.2.2.1 (rxI233 S0 ws) (rxPS233 S0 ws) i q.1 E) q.2.2) 0 rxY233 := ⟨Or.inr ⟨rxf233_0_0 hP, rxf233_0_1 hP, rxf233_0_2 hP, trivial⟩, trivial⟩
theorem rxQ233 {PX : State → Prop} {Dg : va_G} {A : Nat → Prop} {ad xa : Nat → Nat} {l : Launch} {X : (Nat → Int → Int) → Prop} (hPX : rx_PXOK rxNW A PX) (hsl : ∀ s : State, PX s → ∀ o idx n : Nat, rxSl o idx = some n → ∃ tx : String, vk_R (rxNm o) idx tx (ad n) s)
    (hX : ∀ S S_p : Nat → Int → Int, X S → bx_same rxL (bx_mdl rxC233.2.2.1) S S_p → X S_p)
    (ih : ∀ (j2 : Nat) (ct2 : bx_Ct) (M2 : rx_Mt), ct2 ∈ rxCnE j2 → ct2.2.2.2.1 + 1 ≤ rxC233.2.2.2.1 → rxT.2.2.2.2.2 j2 = some M2 → bx_Con rxG rxNW rxAO PX Dg rxL X vwCl A ad l M2 ct2) : bx_ConP rxG rxNW rxAO PX Dg rxL X vwCl A ad l rxM233 rxC233 rxP233 rxPS233 :=
  rxQof (xa := xa) (Cn := rxCnE) (f := 30000) (j := 233) (tab := rxY233) (us := rxU233) hPX hsl hX ih rfl rxYc233 rxI233 rxm233
    (fun S0 ws r I0 I ht0 ht as he he1 hX0 hI0 hP hs ha => by
      have e := he.symm.trans (show bx_ent0 rxNP rxC233.1 bx_I0 [] = some ([(0, 0), (0, 0), (0, 0), (0, 0), (0, 0), (0, 0), (0, 0), (0, 0), ((-2147483648), 2147483647)], [], [.inr (3, (0, 0)), .inr (0, (8, 0))]) from rfl)
      cases e
      subst ha
      have h0 : r 0 = 0 := hs.1
      show rxI233_0 S0 _ S0 (r 8)
      refine ⟨rfl, ?_⟩
      simp only [List.map_cons, List.map_nil, bx_xv_ok h0]
      rfl)
    (fun S0 ws hP => fun i q hq hus => absurd (show false = true from hus) Bool.false_ne_true) (fun S0 ws hP => rxgC233 hP) (fun S0 ws hP => rxgE233 hP)
set_option maxHeartbeats 1000000 in
theorem rzQ233 {PX : State → Prop} {Dg : va_G} {A : Nat → Prop} {ad : Nat → Nat} {l : Launch} (hPX : rx_PXOK rxNW A PX) (hsl : ∀ s : State, PX s → ∀ o idx n : Nat, rxSl o idx = some n → ∃ tx : String, vk_R (rxNm o) idx tx (ad n) s) (ih : ∀ (j : Nat) (ct : bx_Ct) (M : rx_Mt), ct ∈ rxCn j → rxT.2.2.2.2.2 j = some M → bx_Con rxG rxNW rxAO PX Dg rxL rxX vwCl A ad l M ct) : bx_ConP rxG rxNW rxAO PX Dg rxL rxX vwCl A ad l rxM233 rxC233 (fun _ _ => True) rxPS233 := by
  have q233 := rxQ233 (PX := PX) (Dg := Dg) (A := A) (ad := ad) (xa := fun n => n) (l := l) (X := rxX) hPX hsl (fun _ _ h hm => rxX_of (by decide +kernel) h hm) (fun _ _ _ h => absurd h List.not_mem_nil)
  exact fun S0 ws h1 h2 h3 _ => q233 S0 ws h1 h2 h3 trivial
/-! CONTRACT BY HAND, by program (wip/sim/genhand.py): DeadUnderstudiesModel.end -/
def rxI234_0 (S0 : Nat → Int → Int) (ws : List Int) (S : Nat → Int → Int) (m : Int) : Prop := S = S0 ∧ ws = [480, m]
def rxm234_0 (S0 : Nat → Int → Int) (ws : List Int) (S : Nat → Int → Int) (m : Int) : Nat := 100
def rxz234_0 : rx_Z := ([(0, 0), (0, 0), (0, 0), (0, 0), (0, 0), (0, 0), (0, 0), (0, 0), ((-2147483648), 2147483647)], [], [], 0, 0, 0, [(0, .inr (3, (0, 480))), (1, .inr (0, (8, 0)))], [])
def rxe234_0_0 : rx_End × List (Nat × Int × Int) := (([(0, 0), (0, 0), (0, 0), (0, 0), (0, 0), (0, 0), (0, 0), (0, 0), (1, 2147483647), (0, 400)], [(0, (9, 0), (8, 0))], [(((0, 0), 1851192626986356799029993984671224184301589730656725206267068416000000), .inr (0, (9, 0))), (((0, 480), 8), .inr (0, (9, 0))), (((0, 0), 1851192626986356797424340330377019318111018015026043177836478467000000), .inr (0, (0, 0))), (((0, 480), 0), .inr (0, (0, 0)))], some (.inr (0, (0, (-1))))), [])
def rxe234_0_1 : rx_End × List (Nat × Int × Int) := (([(0, 0), (0, 0), (0, 0), (0, 0), (0, 0), (0, 0), (0, 0), (0, 0), (0, 400), (0, 400)], [(1, (8, 0), (9, 0))], [(((0, 0), 1851192626986356799029993984671224184301589730656725206267068419000000), .inr (0, (8, 0))), (((0, 480), 8), .inr (0, (8, 0))), (((0, 0), 1851192626986356799029993984671224184301589730656725206267068416000000), .inr (0, (9, 0))), (((0, 0), 1851192626986356797424340330377019318111018015026043177836478467000000), .inr (0, (0, 0))), (((0, 480), 0), .inr (0, (0, 0)))], some (.inr (0, (8, 0)))), [])
def rxe234_0_2 : rx_End × List (Nat × Int × Int) := (([(0, 0), (0, 0), (0, 0), (0, 0), (0, 0), (0, 0), (0, 0), (0, 0), ((-2147483648), (-1))], [], [(((0, 0), 1851192626986356797424340330377019318111018015026043177836478467000000), .inr (0, (0, 0))), (((0, 480), 0), .inr (0, (0, 0)))], some (.inr (0, (0, (-1))))), [])
def rxY234 : List bx_HE := [(rxz234_0, [], [rxe234_0_0, rxe234_0_1, rxe234_0_2])]
def rxU234 (q : bx_HE) : Bool := false
def rxYB234 : bx_B := (rxV, rxNP, rxDmf, bx_mdH rxC234.2.2.1)
set_option maxRecDepth 100000 in
theorem rxYc234 : bx_chkH rxYB234 rxM234 rxC234 rxY234 (rxU234, fun cut z => rx_ex2 (rxCT rxYB234 rxCnE) cut 30000 rxC234.2.2.2.1 234 z) = true := by decide +kernel
def rxI234 (S0 : Nat → Int → Int) (ws : List Int) (i : Nat) : bx_SP := fun S r => match i with | 0 => rxI234_0 S0 ws S (r 8) | _ => False
def rxm234 (S0 : Nat → Int → Int) (ws : List Int) (i : Nat) (S : Nat → Int → Int) (r : Nat → Int) : Nat := match i with | 0 => rxm234_0 S0 ws S (r 8) | _ => 0
def rxP234 (S0 : Nat → Int → Int) (ws : List Int) : Prop := True
def rxPS234 (S0 : Nat → Int → Int) (ws : List Int) (S : Nat → Int → Int) (w : Option Int) : Prop := ∃ m : Int, ws = [480, m] ∧ (((m < 0 ∨ S0 480 8 < m) ∧ w = some (-1) ∧ (∀ j : Int, S 482 j = S0 482 j) ∧ S 480 8 = S0 480 8) ∨ (0 ≤ m ∧ m ≤ S0 480 8 ∧ w = some m ∧ S 480 8 = m))
theorem rxd234_0_0 {S0 : Nat → Int → Int} {ws : List Int} {S : Nat → Int → Int} {m x9 : Int} (hP : rxP234 S0 ws) (hin : bx_same rxL (bx_mdl rxC234.2.2.1) S0 S) (hin2 : bx_same rxL (bx_mdl rxC234.2.2.1) S (bx_up S 480 0 0)) (I0 : bx_Inv rxL S) (I1 : bx_Inv rxL (bx_up S 480 0 0)) (hinv : rxI234_0 S0 ws S m) (l8 : 1 ≤ m) (u8 : m ≤ 2147483647) (l9 : 0 ≤ x9) (u9 : x9 ≤ 400) (f0 : x9 < m) (e0 : (bx_up S 480 0 0) 480 8 = x9) : (True) ∧ rxPS234 S0 ws (bx_up S 480 0 0) (some ((-1))) := by
  obtain ⟨rfl, hw⟩ := hinv
  have e0 := (show _ = S 480 8 from (bx_up_ne (by omega))).symm.trans e0
  refine ⟨trivial, m, hw, Or.inl (⟨?_, ?_, fun j => (bx_up_ne (by omega)), (bx_up_ne (by omega))⟩)⟩ <;> first | omega | exact hin2 | exact congrArg some (by omega) | (intro i i0 i1; simp only [bx_up]; (repeat' split) <;> first | rfl | omega | (simp_all; done) | (simp_all; omega)) | ((repeat (first | rw [bx_up_at] | rw [bx_up_ne (by omega)])); omega) | exact True.intro
theorem rxf234_0_0 {X : (Nat → Int → Int) → Prop} {S0 : Nat → Int → Int} {ws : List Int} (hP : rxP234 S0 ws) : bx_obE rxL X S0 rxC234.2.2.1 (rxI234 S0 ws) (rxPS234 S0 ws) 0 rxz234_0 rxe234_0_0 := by
  intro S S_p r r_p hinv hX hin hsm_ hseg
  obtain ⟨I0, I1, h0_, hr_, b_, f_, d_⟩ := bx_cl (evs := [(0, (0, 480), (0, 8), .inr (0, (9, 0))), (1, (0, 480), (0, 0), .inr (0, (0, 0)))]) (fvs := [(0, (9, 0), (8, 0), (0, 0))]) hseg (by decide +kernel) (by decide +kernel)
  have hinv : rxI234_0 S0 ws S (r 8) := hinv
  rw [← hr_ 8 (by decide)] at hinv
  obtain ⟨⟨l8, u8⟩, ⟨l9, u9⟩, -⟩ := b_
  obtain ⟨f0, -⟩ := f_
  obtain ⟨e0, ⟨T1, w_, w1⟩⟩ := d_
  subst w1
  subst w_
  have g := rxd234_0_0 hP hin hsm_ I0 I1 hinv l8 u8 l9 u9 f0 e0
  refine ⟨bx_narP_ok (l := []) g.1, ?_⟩
  show rxPS234 S0 ws (bx_up T1 480 (0) (0)) (some (bx_num r_p (.inr (0, (0, (-1))))))
  rw [bx_xv_ok h0_]
  exact g.2
theorem rxd234_0_1 {S0 : Nat → Int → Int} {ws : List Int} {S : Nat → Int → Int} {m x9 : Int} (hP : rxP234 S0 ws) (hin : bx_same rxL (bx_mdl rxC234.2.2.1) S0 S) (hin2 : bx_same rxL (bx_mdl rxC234.2.2.1) S (bx_up (bx_up S 480 0 0) 480 8 m)) (I0 : bx_Inv rxL S) (I1 : bx_Inv rxL (bx_up (bx_up S 480 0 0) 480 8 m)) (hinv : rxI234_0 S0 ws S m) (l8 : 0 ≤ m) (u8 : m ≤ 400) (l9 : 0 ≤ x9) (u9 : x9 ≤ 400) (f0 : m ≤ x9) (e1 : (bx_up S 480 0 0) 480 8 = x9) : (True) ∧ rxPS234 S0 ws (bx_up (bx_up S 480 0 0) 480 8 m) (some m) := by
  obtain ⟨rfl, hw⟩ := hinv
  have e1 := (show _ = S 480 8 from (bx_up_ne (by omega))).symm.trans e1
  refine ⟨trivial, m, hw, Or.inr (⟨?_, ?_, ?_, (bx_up_at).trans (by omega)⟩)⟩ <;> first | omega | exact hin2 | exact congrArg some (by omega) | (intro i i0 i1; simp only [bx_up]; (repeat' split) <;> first | rfl | omega | (simp_all; done) | (simp_all; omega)) | ((repeat (first | rw [bx_up_at] | rw [bx_up_ne (by omega)])); omega) | exact True.intro
theorem rxf234_0_1 {X : (Nat → Int → Int) → Prop} {S0 : Nat → Int → Int} {ws : List Int} (hP : rxP234 S0 ws) : bx_obE rxL X S0 rxC234.2.2.1 (rxI234 S0 ws) (rxPS234 S0 ws) 0 rxz234_0 rxe234_0_1 := by
  intro S S_p r r_p hinv hX hin hsm_ hseg
  obtain ⟨I0, I1, h0_, hr_, b_, f_, d_⟩ := bx_cl (evs := [(1, (0, 480), (0, 8), .inr (0, (8, 0))), (0, (0, 480), (0, 8), .inr (0, (9, 0))), (1, (0, 480), (0, 0), .inr (0, (0, 0)))]) (fvs := [(1, (8, 0), (9, 0), (0, 0))]) hseg (by decide +kernel) (by decide +kernel)
  have hinv : rxI234_0 S0 ws S (r 8) := hinv
  rw [← hr_ 8 (by decide)] at hinv
  obtain ⟨⟨l8, u8⟩, ⟨l9, u9⟩, -⟩ := b_
  obtain ⟨f0, -⟩ := f_
  obtain ⟨T0, ⟨e1, ⟨T2, w_, w2⟩⟩, w0⟩ := d_
  subst w0
  subst w2
  subst w_
  have g := rxd234_0_1 hP hin hsm_ I0 I1 hinv l8 u8 l9 u9 f0 e1
  refine ⟨bx_narP_ok (l := []) g.1, ?_⟩
  show rxPS234 S0 ws (bx_up (bx_up T2 480 (0) (0)) 480 (8) (r_p 8)) (some (bx_num r_p (.inr (0, (8, 0)))))
  rw [bx_xv_ok h0_]
  exact g.2
theorem rxd234_0_2 {S0 : Nat → Int → Int} {ws : List Int} {S : Nat → Int → Int} {m : Int} (hP : rxP234 S0 ws) (hin : bx_same rxL (bx_mdl rxC234.2.2.1) S0 S) (hin2 : bx_same rxL (bx_mdl rxC234.2.2.1) S (bx_up S 480 0 0)) (I0 : bx_Inv rxL S) (I1 : bx_Inv rxL (bx_up S 480 0 0)) (hinv : rxI234_0 S0 ws S m) (l8 : (-2147483648) ≤ m) (u8 : m ≤ (-1)) : (True) ∧ rxPS234 S0 ws (bx_up S 480 0 0) (some ((-1))) := by
  obtain ⟨rfl, hw⟩ := hinv
  refine ⟨trivial, m, hw, Or.inl (⟨?_, ?_, fun j => (bx_up_ne (by omega)), (bx_up_ne (by omega))⟩)⟩ <;> first | omega | exact hin2 | exact congrArg some (by omega) | (intro i i0 i1; simp only [bx_up]; (repeat' split) <;> first | rfl | omega | (simp_all; done) | (simp_all; omega)) | ((repeat (first | rw [bx_up_at] | rw [bx_up_ne (by omega)])); omega) | exact True.intro
theorem rxf234_0_2 {X : (Nat → Int → Int) → Prop} {S0 : Nat → Int → Int} {ws : List Int} (hP : rxP234 S0 ws) : bx_obE rxL X S0 rxC234.2.2.1 (rxI234 S0 ws) (rxPS234 S0 ws) 0 rxz234_0 rxe234_0_2 := by
  intro S S_p r r_p hinv hX hin hsm_ hseg
  obtain ⟨I0, I1, h0_, hr_, b_, f_, d_⟩ := bx_cl (evs := [(1, (0, 480), (0, 0), .inr (0, (0, 0)))]) (fvs := []) hseg (by decide +kernel) (by decide +kernel)
  have hinv : rxI234_0 S0 ws S (r 8) := hinv
  rw [← hr_ 8 (by decide)] at hinv
  obtain ⟨⟨l8, u8⟩, -⟩ := b_
  obtain ⟨T0, w_, w0⟩ := d_
  subst w0
  subst w_
  have g := rxd234_0_2 hP hin hsm_ I0 I1 hinv l8 u8
  refine ⟨bx_narP_ok (l := []) g.1, ?_⟩
  show rxPS234 S0 ws (bx_up T0 480 (0) (0)) (some (bx_num r_p (.inr (0, (0, (-1))))))
  rw [bx_xv_ok h0_]
  exact g.2
theorem rxgC234 {X : (Nat → Int → Int) → Prop} {S0 : Nat → Int → Int} {ws : List Int} (hP : rxP234 S0 ws) : bx_allI (fun i q => rxU234 q = true ∨ bx_allP (fun o => bx_obC rxL X S0 rxC234.2.2.1 (rxI234 S0 ws) (rxm234 S0 ws) i q.1 o) q.2.1) 0 rxY234 := ⟨Or.inr trivial, trivial⟩
theorem rxgE234 {X : (Nat → Int → Int) → Prop} {S0 : Nat → Int → Int} {ws : List Int} (hP : rxP234 S0 ws) : bx_allI (fun i q => rxU234 q = true ∨ bx_allP (fun E => bx_obE rxL X S0 rxC234.2.2.1 (rxI234 S0 ws) (rxPS234 S0 ws) i q.1 E) q.2.2) 0 rxY234 := ⟨Or.inr ⟨rxf234_0_0 hP, rxf234_0_1 hP, rxf234_0_2 hP, trivial⟩, trivial⟩
theorem rxQ234 {PX : State → Prop} {Dg : va_G} {A : Nat → Prop} {ad xa : Nat → Nat} {l : Launch} {X : (Nat → Int → Int) → Prop} (hPX : rx_PXOK rxNW A PX) (hsl : ∀ s : State, PX s → ∀ o idx n : Nat, rxSl o idx = some n → ∃ tx : String, vk_R (rxNm o) idx tx (ad n) s)
    (hX : ∀ S S_p : Nat → Int → Int, X S → bx_same rxL (bx_mdl rxC234.2.2.1) S S_p → X S_p)
    (ih : ∀ (j2 : Nat) (ct2 : bx_Ct) (M2 : rx_Mt), ct2 ∈ rxCnE j2 → ct2.2.2.2.1 + 1 ≤ rxC234.2.2.2.1 → rxT.2.2.2.2.2 j2 = some M2 → bx_Con rxG rxNW rxAO PX Dg rxL X vwCl A ad l M2 ct2) : bx_ConP rxG rxNW rxAO PX Dg rxL X vwCl A ad l rxM234 rxC234 rxP234 rxPS234 :=
  rxQof (xa := xa) (Cn := rxCnE) (f := 30000) (j := 234) (tab := rxY234) (us := rxU234) hPX hsl hX ih rfl rxYc234 rxI234 rxm234
    (fun S0 ws r I0 I ht0 ht as he he1 hX0 hI0 hP hs ha => by
      have e := he.symm.trans (show bx_ent0 rxNP rxC234.1 bx_I0 [] = some ([(0, 0), (0, 0), (0, 0), (0, 0), (0, 0), (0, 0), (0, 0), (0, 0), ((-2147483648), 2147483647)], [], [.inr (3, (0, 480)), .inr (0, (8, 0))]) from rfl)
      cases e
      subst ha
      have h0 : r 0 = 0 := hs.1
      show rxI234_0 S0 _ S0 (r 8)
      refine ⟨rfl, ?_⟩
      simp only [List.map_cons, List.map_nil, bx_xv_ok h0]
      rfl)
    (fun S0 ws hP => fun i q hq hus => absurd (show false = true from hus) Bool.false_ne_true) (fun S0 ws hP => rxgC234 hP) (fun S0 ws hP => rxgE234 hP)
set_option maxHeartbeats 1000000 in
theorem rzQ234 {PX : State → Prop} {Dg : va_G} {A : Nat → Prop} {ad : Nat → Nat} {l : Launch} (hPX : rx_PXOK rxNW A PX) (hsl : ∀ s : State, PX s → ∀ o idx n : Nat, rxSl o idx = some n → ∃ tx : String, vk_R (rxNm o) idx tx (ad n) s) : bx_ConP rxG rxNW rxAO PX Dg rxL rxX vwCl A ad l rxM234 rxC234 (fun _ _ => True) rxPS234 := by
  have q234 := rxQ234 (PX := PX) (Dg := Dg) (A := A) (ad := ad) (xa := fun n => n) (l := l) (X := rxX) hPX hsl (fun _ _ h hm => rxX_of (by decide +kernel) h hm) (fun _ _ _ h => absurd h List.not_mem_nil)
  exact fun S0 ws h1 h2 h3 _ => q234 S0 ws h1 h2 h3 trivial
