section
noncomputable def rxI233_0 (S0 : Nat → Int → Int) (ws : List Int) (S : Nat → Int → Int) (m : Int) : Prop := S = S0 ∧ ws = [0, m]
noncomputable def rxm233_0 (S0 : Nat → Int → Int) (ws : List Int) (S : Nat → Int → Int) (m : Int) : Nat := 100
noncomputable def rxz233_0 : rx_Z := ([(0, 0), (0, 0), (0, 0), (0, 0), (0, 0), (0, 0), (0, 0), (0, 0), ((-2147483648), 2147483647)], [], [], 0, 0, 0, [(0, .inr (3, (0, 0))), (1, .inr (0, (8, 0)))], [])
noncomputable def rxe233_0_0 : rx_End × List (Nat × Int × Int) := (([(0, 0), (0, 0), (0, 0), (0, 0), (0, 0), (0, 0), (0, 0), (0, 0), (1, 2147483647), (0, 400)], [(0, (9, 0), (8, 0))], [(((0, 0), 1851192626986356798227167157524121751206303872841384191768657920000000), .inr (0, (9, 0))), (((0, 0), 4), .inr (0, (9, 0)))], some (.inr (0, (0, (-1))))), [])
noncomputable def rxe233_0_1 : rx_End × List (Nat × Int × Int) := (([(0, 0), (0, 0), (0, 0), (0, 0), (0, 0), (0, 0), (0, 0), (0, 0), (0, 400), (0, 400)], [(1, (8, 0), (9, 0))], [(((0, 0), 1851192626986356798227167157524121751206303872841384191768657923000000), .inr (0, (8, 0))), (((0, 0), 4), .inr (0, (8, 0))), (((0, 0), 1851192626986356798227167157524121751206303872841384191768657920000000), .inr (0, (9, 0)))], some (.inr (0, (8, 0)))), [])
noncomputable def rxe233_0_2 : rx_End × List (Nat × Int × Int) := (([(0, 0), (0, 0), (0, 0), (0, 0), (0, 0), (0, 0), (0, 0), (0, 0), ((-2147483648), (-1))], [], [], some (.inr (0, (0, (-1))))), [])
noncomputable def rxY233 : List bx_HE := [(rxz233_0, [], [rxe233_0_0, rxe233_0_1, rxe233_0_2])]
noncomputable def rxU233 (q : bx_HE) : Bool := false
noncomputable def rxYB233 : bx_B := (rxV, rxNP, rxDmf, bx_mdH rxC233.2.2.1)
set_option maxRecDepth 100000 in
theorem rxYc233 : bx_chkH rxYB233 rxM233 rxC233 rxY233 (rxU233, fun cut z => rx_ex2 (rxCT rxYB233 rxCnE) cut 30000 rxC233.2.2.2.1 233 z) = true := by decide +kernel
noncomputable def rxI233 (S0 : Nat → Int → Int) (ws : List Int) (i : Nat) : bx_SP := fun S r => match i with | 0 => rxI233_0 S0 ws S (r 8) | _ => False
noncomputable def rxm233 (S0 : Nat → Int → Int) (ws : List Int) (i : Nat) (S : Nat → Int → Int) (r : Nat → Int) : Nat := match i with | 0 => rxm233_0 S0 ws S (r 8) | _ => 0
noncomputable def rxP233 (S0 : Nat → Int → Int) (ws : List Int) : Prop := True
noncomputable def rxPS233 (S0 : Nat → Int → Int) (ws : List Int) (S : Nat → Int → Int) (w : Option Int) : Prop := ∃ m : Int, ws = [0, m] ∧ (((m < 0 ∨ S0 0 4 < m) ∧ w = some (-1) ∧ S = S0) ∨ (0 ≤ m ∧ m ≤ S0 0 4 ∧ w = some m ∧ S 0 4 = m))
theorem rxd233_0_0 {S0 : Nat → Int → Int} {ws : List Int} {S : Nat → Int → Int} {m x9 : Int} (hP : rxP233 S0 ws) (hin : bx_same rxL (bx_mdl rxC233.2.2.1) S0 S) (hin2 : bx_same rxL (bx_mdl rxC233.2.2.1) S S) (I0 : bx_Inv rxL S) (I1 : bx_Inv rxL S) (hinv : rxI233_0 S0 ws S m) (l8 : 1 ≤ m) (u8 : m ≤ 2147483647) (l9 : 0 ≤ x9) (u9 : x9 ≤ 400) (f0 : x9 < m) (e0 : S 0 4 = x9) : (True) ∧ rxPS233 S0 ws S (some ((-1))) := by
  obtain ⟨rfl, hw⟩ := hinv
  exact ⟨trivial, m, hw, Or.inl ⟨by omega, rfl, rfl⟩⟩
theorem rxf233_0_0 {X : (Nat → Int → Int) → Prop} {S0 : Nat → Int → Int} {ws : List Int} (hP : rxP233 S0 ws) : bx_obE rxL X S0 rxC233.2.2.1 (rxI233 S0 ws) (rxPS233 S0 ws) 0 rxz233_0 rxe233_0_0 := by
  intro S S_p r r_p hinv hX hin hsm_ hseg
  obtain ⟨I0, I1, h0_, hr_, b_, f_, d_⟩ := bx_cl (evs := [(0, (0, 0), (0, 4), .inr (0, (9, 0)))]) (fvs := [(0, (9, 0), (8, 0), (0, 0))]) hseg (by decide +kernel) (by decide +kernel)
  have hinv : rxI233_0 S0 ws S (r 8) := hinv
  rw [← hr_ 8 (by decide)] at hinv
  obtain ⟨⟨l8, u8⟩, ⟨l9, u9⟩, -⟩ := b_
  obtain ⟨f0, -⟩ := f_
  obtain ⟨e0, w_⟩ := d_
  subst w_
  have g := rxd233_0_0 hP hin hsm_ I0 I1 hinv l8 u8 l9 u9 f0 e0
  refine ⟨bx_narP_ok (l := []) g.1, ?_⟩
  show rxPS233 S0 ws S_p (some (bx_num r_p (.inr (0, (0, (-1))))))
  rw [bx_xv_ok h0_]
  exact g.2
theorem rxd233_0_1 {S0 : Nat → Int → Int} {ws : List Int} {S : Nat → Int → Int} {m x9 : Int} (hP : rxP233 S0 ws) (hin : bx_same rxL (bx_mdl rxC233.2.2.1) S0 S) (hin2 : bx_same rxL (bx_mdl rxC233.2.2.1) S (bx_up S 0 4 m)) (I0 : bx_Inv rxL S) (I1 : bx_Inv rxL (bx_up S 0 4 m)) (hinv : rxI233_0 S0 ws S m) (l8 : 0 ≤ m) (u8 : m ≤ 400) (l9 : 0 ≤ x9) (u9 : x9 ≤ 400) (f0 : m ≤ x9) (e1 : S 0 4 = x9) : (True) ∧ rxPS233 S0 ws (bx_up S 0 4 m) (some m) := by
  obtain ⟨rfl, hw⟩ := hinv
  exact ⟨trivial, m, hw, Or.inr ⟨by omega, by omega, rfl, bx_up_at⟩⟩
theorem rxf233_0_1 {X : (Nat → Int → Int) → Prop} {S0 : Nat → Int → Int} {ws : List Int} (hP : rxP233 S0 ws) : bx_obE rxL X S0 rxC233.2.2.1 (rxI233 S0 ws) (rxPS233 S0 ws) 0 rxz233_0 rxe233_0_1 := by
  intro S S_p r r_p hinv hX hin hsm_ hseg
  obtain ⟨I0, I1, h0_, hr_, b_, f_, d_⟩ := bx_cl (evs := [(1, (0, 0), (0, 4), .inr (0, (8, 0))), (0, (0, 0), (0, 4), .inr (0, (9, 0)))]) (fvs := [(1, (8, 0), (9, 0), (0, 0))]) hseg (by decide +kernel) (by decide +kernel)
  have hinv : rxI233_0 S0 ws S (r 8) := hinv
  rw [← hr_ 8 (by decide)] at hinv
  obtain ⟨⟨l8, u8⟩, ⟨l9, u9⟩, -⟩ := b_
  obtain ⟨f0, -⟩ := f_
  obtain ⟨T0, ⟨e1, w_⟩, w0⟩ := d_
  subst w0
  subst w_
  have g := rxd233_0_1 hP hin hsm_ I0 I1 hinv l8 u8 l9 u9 f0 e1
  refine ⟨bx_narP_ok (l := []) g.1, ?_⟩
  show rxPS233 S0 ws (bx_up T0 0 (4) (r_p 8)) (some (bx_num r_p (.inr (0, (8, 0)))))
  rw [bx_xv_ok h0_]
  exact g.2
theorem rxd233_0_2 {S0 : Nat → Int → Int} {ws : List Int} {S : Nat → Int → Int} {m : Int} (hP : rxP233 S0 ws) (hin : bx_same rxL (bx_mdl rxC233.2.2.1) S0 S) (hin2 : bx_same rxL (bx_mdl rxC233.2.2.1) S S) (I0 : bx_Inv rxL S) (I1 : bx_Inv rxL S) (hinv : rxI233_0 S0 ws S m) (l8 : (-2147483648) ≤ m) (u8 : m ≤ (-1)) : (True) ∧ rxPS233 S0 ws S (some ((-1))) := by
  obtain ⟨rfl, hw⟩ := hinv
  exact ⟨trivial, m, hw, Or.inl ⟨by omega, rfl, rfl⟩⟩
theorem rxf233_0_2 {X : (Nat → Int → Int) → Prop} {S0 : Nat → Int → Int} {ws : List Int} (hP : rxP233 S0 ws) : bx_obE rxL X S0 rxC233.2.2.1 (rxI233 S0 ws) (rxPS233 S0 ws) 0 rxz233_0 rxe233_0_2 := by
  intro S S_p r r_p hinv hX hin hsm_ hseg
  obtain ⟨I0, I1, h0_, hr_, b_, f_, d_⟩ := bx_cl (evs := []) (fvs := []) hseg (by decide +kernel) (by decide +kernel)
  have hinv : rxI233_0 S0 ws S (r 8) := hinv
  rw [← hr_ 8 (by decide)] at hinv
  obtain ⟨⟨l8, u8⟩, -⟩ := b_
  have w_ := d_
  subst w_
  have g := rxd233_0_2 hP hin hsm_ I0 I1 hinv l8 u8
  refine ⟨bx_narP_ok (l := []) g.1, ?_⟩
  show rxPS233 S0 ws S_p (some (bx_num r_p (.inr (0, (0, (-1))))))
  rw [bx_xv_ok h0_]
  exact g.2
theorem rxgC233 {X : (Nat → Int → Int) → Prop} {S0 : Nat → Int → Int} {ws : List Int} (hP : rxP233 S0 ws) : bx_allI (fun i q => rxU233 q = true ∨ bx_allP (fun o => bx_obC rxL X S0 rxC233.2.2.1 (rxI233 S0 ws) (rxm233 S0 ws) i q.1 o) q.2.1) 0 rxY233 := ⟨Or.inr trivial, trivial⟩
theorem rxgE233 {X : (Nat → Int → Int) → Prop} {S0 : Nat → Int → Int} {ws : List Int} (hP : rxP233 S0 ws) : bx_allI (fun i q => rxU233 q = true ∨ bx_allP (fun E => bx_obE rxL X S0 rxC233.2.2.1 (rxI233 S0 ws) (rxPS233 S0 ws) i q.1 E) q.2.2) 0 rxY233 := ⟨Or.inr ⟨rxf233_0_0 hP, rxf233_0_1 hP, rxf233_0_2 hP, trivial⟩, trivial⟩
theorem rxQ233 {PX : State → Prop} {Dg : va_G} {A : Nat → Prop} {ad xa : Nat → Nat} {l : Launch} {X : (Nat → Int → Int) → Prop} (hPX : rx_PXOK rxNW A PX) (hsl : ∀ s : State, PX s → ∀ o idx n : Nat, rxSl o idx = some n → ∃ tx : String, vk_R (rxNm o) idx tx (ad n) s)
    (hX : ∀ S S_p : Nat → Int → Int, X S → bx_same rxL (bx_mdl rxC233.2.2.1) S S_p → X S_p)
    (ih : ∀ (j2 : Nat) (ct2 : bx_Ct) (M2 : rx_Mt), ct2 ∈ rxCnE j2 → ct2.2.2.2.1 + 1 ≤ rxC233.2.2.2.1 → rxT.2.2.2.2.2 j2 = some M2 → bx_Con rxG rxNW rxAO PX Dg rxL X vwCl A ad l M2 ct2) : bx_ConP rxG rxNW rxAO PX Dg rxL X vwCl A ad l rxM233 rxC233 rxP233 rxPS233 :=
  rxQof (xa := xa) (Cn := rxCnE) (f := 30000) (j := 233) (tab := rxY233) (us := rxU233) hPX hsl hX ih rfl rxYc233 rxI233 rxm233
    (fun S0 ws r I0 I ht0 ht as he he1 hX0 hI0 hP hs ha => by
      have e := he.symm.trans (show bx_ent0 rxNP rxC233.1 bx_I0 [] = some ([(0, 0), (0, 0), (0, 0), (0, 0), (0, 0), (0, 0), (0, 0), (0, 0), ((-2147483648), 2147483647)], [], [.inr (3, (0, 0)), .inr (0, (8, 0))]) from rfl)
      cases e
      subst ha
      have h0 : r 0 = 0 := hs.1
      show rxI233_0 S0 _ S0 (r 8)
      refine ⟨rfl, ?_⟩
      simp only [List.map_cons, List.map_nil, bx_xv_ok h0]
      rfl)
    (fun S0 ws hP => fun i q hq hus => absurd (show false = true from hus) Bool.false_ne_true) (fun S0 ws hP => rxgC233 hP) (fun S0 ws hP => rxgE233 hP)
set_option maxHeartbeats 1000000 in
theorem rzQ233 {PX : State → Prop} {Dg : va_G} {A : Nat → Prop} {ad : Nat → Nat} {l : Launch} (hPX : rx_PXOK rxNW A PX) (hsl : ∀ s : State, PX s → ∀ o idx n : Nat, rxSl o idx = some n → ∃ tx : String, vk_R (rxNm o) idx tx (ad n) s) (ih : ∀ (j : Nat) (ct : bx_Ct) (M : rx_Mt), ct ∈ rxCn j → rxT.2.2.2.2.2 j = some M → bx_Con rxG rxNW rxAO PX Dg rxL rxX vwCl A ad l M ct) : bx_ConP rxG rxNW rxAO PX Dg rxL rxX vwCl A ad l rxM233 rxC233 (fun _ _ => True) rxPS233 := by
  have q233 := rxQ233 (PX := PX) (Dg := Dg) (A := A) (ad := ad) (xa := fun n => n) (l := l) (X := rxX) hPX hsl (fun _ _ h hm => rxX_of (by decide +kernel) h hm) (fun _ _ _ h => absurd h List.not_mem_nil)
  exact fun S0 ws h1 h2 h3 _ => q233 S0 ws h1 h2 h3 trivial
noncomputable def rxI234_0 (S0 : Nat → Int → Int) (ws : List Int) (S : Nat → Int → Int) (m : Int) : Prop := S = S0 ∧ ws = [480, m]
noncomputable def rxm234_0 (S0 : Nat → Int → Int) (ws : List Int) (S : Nat → Int → Int) (m : Int) : Nat := 100
noncomputable def rxz234_0 : rx_Z := ([(0, 0), (0, 0), (0, 0), (0, 0), (0, 0), (0, 0), (0, 0), (0, 0), ((-2147483648), 2147483647)], [], [], 0, 0, 0, [(0, .inr (3, (0, 480))), (1, .inr (0, (8, 0)))], [])
noncomputable def rxe234_0_0 : rx_End × List (Nat × Int × Int) := (([(0, 0), (0, 0), (0, 0), (0, 0), (0, 0), (0, 0), (0, 0), (0, 0), (1, 2147483647), (0, 400)], [(0, (9, 0), (8, 0))], [(((0, 0), 1851192626986356799029993984671224184301589730656725206267068416000000), .inr (0, (9, 0))), (((0, 480), 8), .inr (0, (9, 0))), (((0, 0), 1851192626986356797424340330377019318111018015026043177836478467000000), .inr (0, (0, 0))), (((0, 480), 0), .inr (0, (0, 0)))], some (.inr (0, (0, (-1))))), [])
noncomputable def rxe234_0_1 : rx_End × List (Nat × Int × Int) := (([(0, 0), (0, 0), (0, 0), (0, 0), (0, 0), (0, 0), (0, 0), (0, 0), (0, 400), (0, 400)], [(1, (8, 0), (9, 0))], [(((0, 0), 1851192626986356799029993984671224184301589730656725206267068419000000), .inr (0, (8, 0))), (((0, 480), 8), .inr (0, (8, 0))), (((0, 0), 1851192626986356799029993984671224184301589730656725206267068416000000), .inr (0, (9, 0))), (((0, 0), 1851192626986356797424340330377019318111018015026043177836478467000000), .inr (0, (0, 0))), (((0, 480), 0), .inr (0, (0, 0)))], some (.inr (0, (8, 0)))), [])
noncomputable def rxe234_0_2 : rx_End × List (Nat × Int × Int) := (([(0, 0), (0, 0), (0, 0), (0, 0), (0, 0), (0, 0), (0, 0), (0, 0), ((-2147483648), (-1))], [], [(((0, 0), 1851192626986356797424340330377019318111018015026043177836478467000000), .inr (0, (0, 0))), (((0, 480), 0), .inr (0, (0, 0)))], some (.inr (0, (0, (-1))))), [])
noncomputable def rxY234 : List bx_HE := [(rxz234_0, [], [rxe234_0_0, rxe234_0_1, rxe234_0_2])]
noncomputable def rxU234 (q : bx_HE) : Bool := false
noncomputable def rxYB234 : bx_B := (rxV, rxNP, rxDmf, bx_mdH rxC234.2.2.1)
set_option maxRecDepth 100000 in
theorem rxYc234 : bx_chkH rxYB234 rxM234 rxC234 rxY234 (rxU234, fun cut z => rx_ex2 (rxCT rxYB234 rxCnE) cut 30000 rxC234.2.2.2.1 234 z) = true := by decide +kernel
noncomputable def rxI234 (S0 : Nat → Int → Int) (ws : List Int) (i : Nat) : bx_SP := fun S r => match i with | 0 => rxI234_0 S0 ws S (r 8) | _ => False
noncomputable def rxm234 (S0 : Nat → Int → Int) (ws : List Int) (i : Nat) (S : Nat → Int → Int) (r : Nat → Int) : Nat := match i with | 0 => rxm234_0 S0 ws S (r 8) | _ => 0
noncomputable def rxP234 (S0 : Nat → Int → Int) (ws : List Int) : Prop := True
noncomputable def rxPS234 (S0 : Nat → Int → Int) (ws : List Int) (S : Nat → Int → Int) (w : Option Int) : Prop := ∃ m : Int, ws = [480, m] ∧ (((m < 0 ∨ S0 480 8 < m) ∧ w = some (-1) ∧ (∀ j : Int, S 482 j = S0 482 j) ∧ S 480 8 = S0 480 8) ∨ (0 ≤ m ∧ m ≤ S0 480 8 ∧ w = some m ∧ S 480 8 = m))
theorem rxd234_0_0 {S0 : Nat → Int → Int} {ws : List Int} {S : Nat → Int → Int} {m x9 : Int} (hP : rxP234 S0 ws) (hin : bx_same rxL (bx_mdl rxC234.2.2.1) S0 S) (hin2 : bx_same rxL (bx_mdl rxC234.2.2.1) S (bx_up S 480 0 0)) (I0 : bx_Inv rxL S) (I1 : bx_Inv rxL (bx_up S 480 0 0)) (hinv : rxI234_0 S0 ws S m) (l8 : 1 ≤ m) (u8 : m ≤ 2147483647) (l9 : 0 ≤ x9) (u9 : x9 ≤ 400) (f0 : x9 < m) (e0 : (bx_up S 480 0 0) 480 8 = x9) : (True) ∧ rxPS234 S0 ws (bx_up S 480 0 0) (some ((-1))) := by
  obtain ⟨rfl, hw⟩ := hinv
  have e0 := (show _ = S 480 8 from (bx_up_ne (by omega))).symm.trans e0
  refine ⟨trivial, m, hw, Or.inl (⟨?_, ?_, fun j => (bx_up_ne (by omega)), (bx_up_ne (by omega))⟩)⟩ <;> first | omega | exact hin2 | exact congrArg some (by omega) | (intro i i0 i1; simp only [bx_up]; (repeat' split) <;> first | rfl | omega | (simp_all; done) | (simp_all; omega)) | ((repeat (first | rw [bx_up_at] | rw [bx_up_ne (by omega)])); omega) | exact True.intro
theorem rxf234_0_0 {X : (Nat → Int → Int) → Prop} {S0 : Nat → Int → Int} {ws : List Int} (hP : rxP234 S0 ws) : bx_obE rxL X S0 rxC234.2.2.1 (rxI234 S0 ws) (rxPS234 S0 ws) 0 rxz234_0 rxe234_0_0 := by
  intro S S_p r r_p hinv hX hin hsm_ hseg
  obtain ⟨I0, I1, h0_, hr_, b_, f_, d_⟩ := bx_cl (evs := [(0, (0, 480), (0, 8), .inr (0, (9, 0))), (1, (0, 480), (0, 0), .inr (0, (0, 0)))]) (fvs := [(0, (9, 0), (8, 0), (0, 0))]) hseg (by decide +kernel) (by decide +kernel)
  have hinv : rxI234_0 S0 ws S (r 8) := hinv
  rw [← hr_ 8 (by decide)] at hinv
  obtain ⟨⟨l8, u8⟩, ⟨l9, u9⟩, -⟩ := b_
  obtain ⟨f0, -⟩ := f_
  obtain ⟨e0, ⟨T1, w_, w1⟩⟩ := d_
  subst w1
  subst w_
  have g := rxd234_0_0 hP hin hsm_ I0 I1 hinv l8 u8 l9 u9 f0 e0
  refine ⟨bx_narP_ok (l := []) g.1, ?_⟩
  show rxPS234 S0 ws (bx_up T1 480 (0) (0)) (some (bx_num r_p (.inr (0, (0, (-1))))))
  rw [bx_xv_ok h0_]
  exact g.2
theorem rxd234_0_1 {S0 : Nat → Int → Int} {ws : List Int} {S : Nat → Int → Int} {m x9 : Int} (hP : rxP234 S0 ws) (hin : bx_same rxL (bx_mdl rxC234.2.2.1) S0 S) (hin2 : bx_same rxL (bx_mdl rxC234.2.2.1) S (bx_up (bx_up S 480 0 0) 480 8 m)) (I0 : bx_Inv rxL S) (I1 : bx_Inv rxL (bx_up (bx_up S 480 0 0) 480 8 m)) (hinv : rxI234_0 S0 ws S m) (l8 : 0 ≤ m) (u8 : m ≤ 400) (l9 : 0 ≤ x9) (u9 : x9 ≤ 400) (f0 : m ≤ x9) (e1 : (bx_up S 480 0 0) 480 8 = x9) : (True) ∧ rxPS234 S0 ws (bx_up (bx_up S 480 0 0) 480 8 m) (some m) := by
  obtain ⟨rfl, hw⟩ := hinv
  have e1 := (show _ = S 480 8 from (bx_up_ne (by omega))).symm.trans e1
  refine ⟨trivial, m, hw, Or.inr (⟨?_, ?_, ?_, (bx_up_at).trans (by omega)⟩)⟩ <;> first | omega | exact hin2 | exact congrArg some (by omega) | (intro i i0 i1; simp only [bx_up]; (repeat' split) <;> first | rfl | omega | (simp_all; done) | (simp_all; omega)) | ((repeat (first | rw [bx_up_at] | rw [bx_up_ne (by omega)])); omega) | exact True.intro
theorem rxf234_0_1 {X : (Nat → Int → Int) → Prop} {S0 : Nat → Int → Int} {ws : List Int} (hP : rxP234 S0 ws) : bx_obE rxL X S0 rxC234.2.2.1 (rxI234 S0 ws) (rxPS234 S0 ws) 0 rxz234_0 rxe234_0_1 := by
  intro S S_p r r_p hinv hX hin hsm_ hseg
  obtain ⟨I0, I1, h0_, hr_, b_, f_, d_⟩ := bx_cl (evs := [(1, (0, 480), (0, 8), .inr (0, (8, 0))), (0, (0, 480), (0, 8), .inr (0, (9, 0))), (1, (0, 480), (0, 0), .inr (0, (0, 0)))]) (fvs := [(1, (8, 0), (9, 0), (0, 0))]) hseg (by decide +kernel) (by decide +kernel)
  have hinv : rxI234_0 S0 ws S (r 8) := hinv
  rw [← hr_ 8 (by decide)] at hinv
  obtain ⟨⟨l8, u8⟩, ⟨l9, u9⟩, -⟩ := b_
  obtain ⟨f0, -⟩ := f_
  obtain ⟨T0, ⟨e1, ⟨T2, w_, w2⟩⟩, w0⟩ := d_
  subst w0
  subst w2
  subst w_
  have g := rxd234_0_1 hP hin hsm_ I0 I1 hinv l8 u8 l9 u9 f0 e1
  refine ⟨bx_narP_ok (l := []) g.1, ?_⟩
  show rxPS234 S0 ws (bx_up (bx_up T2 480 (0) (0)) 480 (8) (r_p 8)) (some (bx_num r_p (.inr (0, (8, 0)))))
  rw [bx_xv_ok h0_]
  exact g.2
theorem rxd234_0_2 {S0 : Nat → Int → Int} {ws : List Int} {S : Nat → Int → Int} {m : Int} (hP : rxP234 S0 ws) (hin : bx_same rxL (bx_mdl rxC234.2.2.1) S0 S) (hin2 : bx_same rxL (bx_mdl rxC234.2.2.1) S (bx_up S 480 0 0)) (I0 : bx_Inv rxL S) (I1 : bx_Inv rxL (bx_up S 480 0 0)) (hinv : rxI234_0 S0 ws S m) (l8 : (-2147483648) ≤ m) (u8 : m ≤ (-1)) : (True) ∧ rxPS234 S0 ws (bx_up S 480 0 0) (some ((-1))) := by
  obtain ⟨rfl, hw⟩ := hinv
  refine ⟨trivial, m, hw, Or.inl (⟨?_, ?_, fun j => (bx_up_ne (by omega)), (bx_up_ne (by omega))⟩)⟩ <;> first | omega | exact hin2 | exact congrArg some (by omega) | (intro i i0 i1; simp only [bx_up]; (repeat' split) <;> first | rfl | omega | (simp_all; done) | (simp_all; omega)) | ((repeat (first | rw [bx_up_at] | rw [bx_up_ne (by omega)])); omega) | exact True.intro
theorem rxf234_0_2 {X : (Nat → Int → Int) → Prop} {S0 : Nat → Int → Int} {ws : List Int} (hP : rxP234 S0 ws) : bx_obE rxL X S0 rxC234.2.2.1 (rxI234 S0 ws) (rxPS234 S0 ws) 0 rxz234_0 rxe234_0_2 := by
  intro S S_p r r_p hinv hX hin hsm_ hseg
  obtain ⟨I0, I1, h0_, hr_, b_, f_, d_⟩ := bx_cl (evs := [(1, (0, 480), (0, 0), .inr (0, (0, 0)))]) (fvs := []) hseg (by decide +kernel) (by decide +kernel)
  have hinv : rxI234_0 S0 ws S (r 8) := hinv
  rw [← hr_ 8 (by decide)] at hinv
  obtain ⟨⟨l8, u8⟩, -⟩ := b_
  obtain ⟨T0, w_, w0⟩ := d_
  subst w0
  subst w_
  have g := rxd234_0_2 hP hin hsm_ I0 I1 hinv l8 u8
  refine ⟨bx_narP_ok (l := []) g.1, ?_⟩
  show rxPS234 S0 ws (bx_up T0 480 (0) (0)) (some (bx_num r_p (.inr (0, (0, (-1))))))
  rw [bx_xv_ok h0_]
  exact g.2
theorem rxgC234 {X : (Nat → Int → Int) → Prop} {S0 : Nat → Int → Int} {ws : List Int} (hP : rxP234 S0 ws) : bx_allI (fun i q => rxU234 q = true ∨ bx_allP (fun o => bx_obC rxL X S0 rxC234.2.2.1 (rxI234 S0 ws) (rxm234 S0 ws) i q.1 o) q.2.1) 0 rxY234 := ⟨Or.inr trivial, trivial⟩
theorem rxgE234 {X : (Nat → Int → Int) → Prop} {S0 : Nat → Int → Int} {ws : List Int} (hP : rxP234 S0 ws) : bx_allI (fun i q => rxU234 q = true ∨ bx_allP (fun E => bx_obE rxL X S0 rxC234.2.2.1 (rxI234 S0 ws) (rxPS234 S0 ws) i q.1 E) q.2.2) 0 rxY234 := ⟨Or.inr ⟨rxf234_0_0 hP, rxf234_0_1 hP, rxf234_0_2 hP, trivial⟩, trivial⟩
theorem rxQ234 {PX : State → Prop} {Dg : va_G} {A : Nat → Prop} {ad xa : Nat → Nat} {l : Launch} {X : (Nat → Int → Int) → Prop} (hPX : rx_PXOK rxNW A PX) (hsl : ∀ s : State, PX s → ∀ o idx n : Nat, rxSl o idx = some n → ∃ tx : String, vk_R (rxNm o) idx tx (ad n) s)
    (hX : ∀ S S_p : Nat → Int → Int, X S → bx_same rxL (bx_mdl rxC234.2.2.1) S S_p → X S_p)
    (ih : ∀ (j2 : Nat) (ct2 : bx_Ct) (M2 : rx_Mt), ct2 ∈ rxCnE j2 → ct2.2.2.2.1 + 1 ≤ rxC234.2.2.2.1 → rxT.2.2.2.2.2 j2 = some M2 → bx_Con rxG rxNW rxAO PX Dg rxL X vwCl A ad l M2 ct2) : bx_ConP rxG rxNW rxAO PX Dg rxL X vwCl A ad l rxM234 rxC234 rxP234 rxPS234 :=
  rxQof (xa := xa) (Cn := rxCnE) (f := 30000) (j := 234) (tab := rxY234) (us := rxU234) hPX hsl hX ih rfl rxYc234 rxI234 rxm234
    (fun S0 ws r I0 I ht0 ht as he he1 hX0 hI0 hP hs ha => by
      have e := he.symm.trans (show bx_ent0 rxNP rxC234.1 bx_I0 [] = some ([(0, 0), (0, 0), (0, 0), (0, 0), (0, 0), (0, 0), (0, 0), (0, 0), ((-2147483648), 2147483647)], [], [.inr (3, (0, 480)), .inr (0, (8, 0))]) from rfl)
      cases e
      subst ha
      have h0 : r 0 = 0 := hs.1
      show rxI234_0 S0 _ S0 (r 8)
      refine ⟨rfl, ?_⟩
      simp only [List.map_cons, List.map_nil, bx_xv_ok h0]
      rfl)
    (fun S0 ws hP => fun i q hq hus => absurd (show false = true from hus) Bool.false_ne_true) (fun S0 ws hP => rxgC234 hP) (fun S0 ws hP => rxgE234 hP)
set_option maxHeartbeats 1000000 in
theorem rzQ234 {PX : State → Prop} {Dg : va_G} {A : Nat → Prop} {ad : Nat → Nat} {l : Launch} (hPX : rx_PXOK rxNW A PX) (hsl : ∀ s : State, PX s → ∀ o idx n : Nat, rxSl o idx = some n → ∃ tx : String, vk_R (rxNm o) idx tx (ad n) s) : bx_ConP rxG rxNW rxAO PX Dg rxL rxX vwCl A ad l rxM234 rxC234 (fun _ _ => True) rxPS234 := by
  have q234 := rxQ234 (PX := PX) (Dg := Dg) (A := A) (ad := ad) (xa := fun n => n) (l := l) (X := rxX) hPX hsl (fun _ _ h hm => rxX_of (by decide +kernel) h hm) (fun _ _ _ h => absurd h List.not_mem_nil)
  exact fun S0 ws h1 h2 h3 _ => q234 S0 ws h1 h2 h3 trivial
end
section
noncomputable def rkBd (op : Int) : Int := if 31 ≤ op then 0 else if op = 30 then 1 else if op = 29 then 2 else if op = 28 then 3 else if 25 ≤ op then 4 else if 22 ≤ op then 6 else 5
noncomputable def rkUp (f : Int → Int) (k v : Int) : Int → Int := fun i => if i = k then v else f i
theorem rkUp_at {f : Int → Int} {k v : Int} : rkUp f k v k = v := if_pos rfl
theorem rkUp_ne {f : Int → Int} {k v i : Int} (h : i ≠ k) : rkUp f k v i = f i := if_neg h
noncomputable abbrev rkC := Nat × (Int → Int) × (Int → Int) × Int × (Int → Int) × (Int → Int)
noncomputable abbrev rkM (c : rkC) : Int := c.2.2.2.1
noncomputable abbrev rkPo (c : rkC) : Int → Int := c.2.1
noncomputable abbrev rkPa (c : rkC) : Int → Int := c.2.2.1
noncomputable abbrev rkFo (c : rkC) : Int → Int := c.2.2.2.2.1
noncomputable abbrev rkFa (c : rkC) : Int → Int := c.2.2.2.2.2
noncomputable def rkJ (op : Int) : Prop := op = 29 ∨ op = 30
noncomputable def rkC0 : rkC := (0, fun _ => 0, fun _ => 0, 0, fun _ => 0, fun _ => 0)
noncomputable def rkPush (op a : Int) (c : rkC) : rkC := (c.1 + 1, rkUp c.2.1 (c.1 : Int) op, rkUp c.2.2.1 (c.1 : Int) a, c.2.2.2)
noncomputable def rkEmit (op a : Int) (c : rkC) : rkC := (c.1, c.2.1, c.2.2.1, c.2.2.2.1 + 1, rkUp c.2.2.2.2.1 c.2.2.2.1 op, rkUp c.2.2.2.2.2 c.2.2.2.1 a)
noncomputable def rkPop (c : rkC) : rkC := (c.1 - 1, c.2)
noncomputable def rkTop (c : rkC) : rkC := if rkPo c ((c.1 : Int) - 1) = 29 ∨ rkPo c ((c.1 : Int) - 1) = 30 then (c.1 - 1, c.2.1, c.2.2.1, c.2.2.2.1, c.2.2.2.2.1, rkUp c.2.2.2.2.2 (rkPa c ((c.1 : Int) - 1)) c.2.2.2.1) else rkEmit (rkPo c ((c.1 : Int) - 1)) 0 (rkPop c)
noncomputable def rkRd (l : Int) : Nat → rkC → rkC
  | 0, c => c
  | k + 1, c => if 0 < c.1 ∧ l ≤ rkBd (rkPo c ((c.1 : Int) - 1)) then rkRd l k (rkTop c) else c
noncomputable def rkRed (l : Int) (c : rkC) : rkC := rkRd l c.1 c
theorem rkTop_n {c : rkC} : (rkTop c).1 = c.1 - 1 := by
  unfold rkTop
  split <;> rfl
theorem rkRed_y {l : Int} {c : rkC} (h : 0 < c.1) (h2 : l ≤ rkBd (rkPo c ((c.1 : Int) - 1))) : rkRed l c = rkRed l (rkTop c) := by
  unfold rkRed
  obtain ⟨k, hk⟩ : ∃ k : Nat, c.1 = k + 1 := ⟨c.1 - 1, by omega⟩
  rw [rkTop_n, hk]
  show (if 0 < c.1 ∧ l ≤ rkBd (rkPo c ((c.1 : Int) - 1)) then rkRd l k (rkTop c) else c) = rkRd l (k + 1 - 1) (rkTop c)
  rw [if_pos ⟨h, h2⟩]
  rfl
theorem rkRed_n {l : Int} {c : rkC} (h : ¬ (0 < c.1 ∧ l ≤ rkBd (rkPo c ((c.1 : Int) - 1)))) : rkRed l c = c := by
  unfold rkRed
  cases hk : c.1 with
  | zero => rfl
  | succ k =>
    show (if 0 < c.1 ∧ l ≤ rkBd (rkPo c ((c.1 : Int) - 1)) then rkRd l k (rkTop c) else c) = c
    rw [if_neg h]
noncomputable def rkSt (T : Int → Int) (n : Int) (ws : List (List Int)) (f : Int) (lv : List Int) (pr : Bool) (c : rkC) : rkC :=
  match lv with
  | [] => c
  | s :: rest =>
    if pr = true then
      if rest ≠ [] ∧ s = 0 ∧ rzSg T n 93 f = true then rkPop (rkRed 1 c)
      else if rest ≠ [] ∧ (s = 3 ∨ s = 4) ∧ rzSg T n 41 f = true then rkPop (rkRed 1 c)
      else if (s = 3 ∨ s = 4) ∧ rzIs T n rzW_and f = true then rkPush 29 (rkM (rkRed 2 c)) (rkEmit 29 0 (rkRed 2 c))
      else if (s = 3 ∨ s = 4) ∧ rzIs T n rzW_or f = true then rkPush 30 (rkM (rkRed 1 c)) (rkEmit 30 0 (rkRed 1 c))
      else if T f = 43 then rkPush 20 0 (rkRed 5 c)
      else if T f = 45 then rkPush 21 0 (rkRed 5 c)
      else if T f = 42 then rkPush 22 0 (rkRed 6 c)
      else if T f = 47 then rkPush 23 0 (rkRed 6 c)
      else if T f = 37 then rkPush 24 0 (rkRed 6 c)
      else if T f = 60 then rkPush 25 0 (rkRed 4 c)
      else if T f = 62 then rkPush 26 0 (rkRed 4 c)
      else rkPush 27 0 (rkRed 4 c)
    else
      if rzDg T n f = true then rkEmit 0 (rzNo T n f) c
      else if 0 ≤ rzIxn T n f ws 0 then rkEmit (rzIxn T n f ws 0 + 1) 0 c
      else if s = 1 ∧ rzIs T n rzW_not f = true then rkPush 28 0 c
      else if s = 1 ∧ rzSg T n 40 f = true then rkPush 31 0 c
      else rkPush 32 0 c
noncomputable def rkRun (T : Int → Int) (n : Int) (ws : List (List Int)) : Nat → Int → List Int → Bool → Int → rkC → Option rkC
  | 0, _, _, _, _, _ => none
  | k + 1, f, lv, pr, lf, c => match rzStep T n ws f lv pr lf with
    | (0, f_p, lv_p, pr_p, lf_p) => rkRun T n ws k f_p lv_p pr_p lf_p (rkSt T n ws f lv pr c)
    | (1, _, _, _, _) => some (rkRed 1 c)
    | _ => none
noncomputable def rkRes (T : Int → Int) (n : Int) (ws : List (List Int)) (f : Int) (lv : List Int) (pr : Bool) (lf : Int) (c d : rkC) : Prop := ∃ k : Nat, rkRun T n ws k f lv pr lf c = some d
theorem rkRes_step {T : Int → Int} {n : Int} {ws : List (List Int)} {f f_p lf lf_p : Int} {lv lv_p : List Int} {pr pr_p : Bool} {c d : rkC} (h : rzStep T n ws f lv pr lf = (0, f_p, lv_p, pr_p, lf_p)) (hr : rkRes T n ws f_p lv_p pr_p lf_p (rkSt T n ws f lv pr c) d) : rkRes T n ws f lv pr lf c d := by
  obtain ⟨k, hk⟩ := hr
  refine ⟨k + 1, ?_⟩
  show (match rzStep T n ws f lv pr lf with
    | (0, f_p, lv_p, pr_p, lf_p) => rkRun T n ws k f_p lv_p pr_p lf_p (rkSt T n ws f lv pr c)
    | (1, _, _, _, _) => some (rkRed 1 c)
    | _ => none) = some d
  rw [h]
  exact hk
theorem rkRes_done {T : Int → Int} {n : Int} {ws : List (List Int)} {f f_p lf lf_p : Int} {lv lv_p : List Int} {pr pr_p : Bool} {c : rkC} (h : rzStep T n ws f lv pr lf = (1, f_p, lv_p, pr_p, lf_p)) : rkRes T n ws f lv pr lf c (rkRed 1 c) := by
  refine ⟨1, ?_⟩
  show (match rzStep T n ws f lv pr lf with
    | (0, f_p, lv_p, pr_p, lf_p) => rkRun T n ws 0 f_p lv_p pr_p lf_p (rkSt T n ws f lv pr c)
    | (1, _, _, _, _) => some (rkRed 1 c)
    | _ => none) = some (rkRed 1 c)
  rw [h]
  rfl
theorem rkRun_s {T : Int → Int} {n : Int} {ws : List (List Int)} {d : rkC} : ∀ (k : Nat) (f : Int) (lv : List Int) (pr : Bool) (lf : Int) (c : rkC), rkRun T n ws k f lv pr lf c = some d → rkRun T n ws (k + 1) f lv pr lf c = some d
  | 0, f, lv, pr, lf, c, h => by cases h
  | k + 1, f, lv, pr, lf, c, h => by
    have h : (match rzStep T n ws f lv pr lf with
      | (0, f_p, lv_p, pr_p, lf_p) => rkRun T n ws k f_p lv_p pr_p lf_p (rkSt T n ws f lv pr c)
      | (1, _, _, _, _) => some (rkRed 1 c)
      | _ => none) = some d := h
    show (match rzStep T n ws f lv pr lf with
      | (0, f_p, lv_p, pr_p, lf_p) => rkRun T n ws (k + 1) f_p lv_p pr_p lf_p (rkSt T n ws f lv pr c)
      | (1, _, _, _, _) => some (rkRed 1 c)
      | _ => none) = some d
    match hs : rzStep T n ws f lv pr lf, h with
    | (0, f_p, lv_p, pr_p, lf_p), h => exact rkRun_s k f_p lv_p pr_p lf_p _ h
    | (1, _, _, _, _), h => exact h
    | (q + 2, _, _, _, _), h => cases h
theorem rkRun_m {T : Int → Int} {n : Int} {ws : List (List Int)} {d c : rkC} {f lf : Int} {lv : List Int} {pr : Bool} {k : Nat} (h : rkRun T n ws k f lv pr lf c = some d) : ∀ j : Nat, rkRun T n ws (k + j) f lv pr lf c = some d
  | 0 => h
  | j + 1 => rkRun_s _ _ _ _ _ _ (rkRun_m h j)
theorem rkRes_det {T : Int → Int} {n : Int} {ws : List (List Int)} {c d d_p : rkC} {f lf : Int} {lv : List Int} {pr : Bool} (h : rkRes T n ws f lv pr lf c d) (h_p : rkRes T n ws f lv pr lf c d_p) : d = d_p := by
  obtain ⟨k, hk⟩ := h
  obtain ⟨j, hj⟩ := h_p
  have a := rkRun_m hk j
  have b := rkRun_m hj k
  rw [Nat.add_comm j k] at b
  exact Option.some.inj (a.symm.trans b)
noncomputable def rkEx (T : Int → Int) (n : Int) (ws : List (List Int)) (test : Int) (f lf : Int) (d : rkC) : Prop := rkRes T n ws f [test] false lf rkC0 d
noncomputable def rkW (c : rkC) : Prop := 0 ≤ rkM c ∧ (∀ j : Int, 0 ≤ j → j < (c.1 : Int) → 20 ≤ rkPo c j ∧ rkPo c j ≤ 32 ∧ (rkJ (rkPo c j) → 0 ≤ rkPa c j ∧ rkPa c j < rkM c ∧ rkFo c (rkPa c j) = rkPo c j)) ∧ ∀ i : Int, 0 ≤ i → i < rkM c → (0 ≤ rkFo c i ∧ rkFo c i ≤ 8) ∨ (20 ≤ rkFo c i ∧ rkFo c i ≤ 30)
theorem rkW_0 : rkW rkC0 := ⟨Int.le_refl 0, fun j a b => by
  have b : j < 0 := b
  omega, fun i a b => by
  have b : i < 0 := b
  omega⟩
theorem rkW_emit {c : rkC} {op a : Int} (h : rkW c) (ho : (0 ≤ op ∧ op ≤ 8) ∨ (20 ≤ op ∧ op ≤ 30)) : rkW (rkEmit op a c) := by
  obtain ⟨h0, h1, h2⟩ := h
  refine ⟨show 0 ≤ rkM c + 1 by omega, fun j a0 b0 => ?_, fun i a0 b0 => ?_⟩
  · obtain ⟨q1, q2, q3⟩ := h1 j a0 b0
    refine ⟨q1, q2, fun g => ?_⟩
    obtain ⟨r1, r2, r3⟩ := q3 g
    exact ⟨r1, show rkPa c j < rkM c + 1 by omega, (rkUp_ne (show rkPa c j ≠ rkM c by omega)).trans r3⟩
  · have b0 : i < rkM c + 1 := b0
    show (0 ≤ rkUp (rkFo c) (rkM c) op i ∧ rkUp (rkFo c) (rkM c) op i ≤ 8) ∨ (20 ≤ rkUp (rkFo c) (rkM c) op i ∧ rkUp (rkFo c) (rkM c) op i ≤ 30)
    by_cases hi : i = rkM c
    · rw [hi, rkUp_at]
      exact ho
    · rw [rkUp_ne hi]
      exact h2 i a0 (by omega)
theorem rkW_push {c : rkC} {op a : Int} (h : rkW c) (h1 : 20 ≤ op) (h2 : op ≤ 32) (hj : rkJ op → 0 ≤ a ∧ a < rkM c ∧ rkFo c a = op) : rkW (rkPush op a c) := by
  obtain ⟨g0, g1, g2⟩ := h
  refine ⟨g0, fun j a0 b0 => ?_, g2⟩
  have b0 : j < ((c.1 + 1 : Nat) : Int) := b0
  show 20 ≤ rkUp (rkPo c) ((c.1 : Int)) op j ∧ rkUp (rkPo c) ((c.1 : Int)) op j ≤ 32 ∧ (rkJ (rkUp (rkPo c) ((c.1 : Int)) op j) → 0 ≤ rkUp (rkPa c) ((c.1 : Int)) a j ∧ rkUp (rkPa c) ((c.1 : Int)) a j < rkM c ∧ rkFo c (rkUp (rkPa c) ((c.1 : Int)) a j) = rkUp (rkPo c) ((c.1 : Int)) op j)
  by_cases hi : j = (c.1 : Int)
  · rw [hi, rkUp_at, rkUp_at]
    exact ⟨h1, h2, hj⟩
  · rw [rkUp_ne hi, rkUp_ne hi]
    exact g1 j a0 (by omega)
theorem rkW_pop {c : rkC} (h : rkW c) : rkW (rkPop c) := ⟨h.1, fun j a b => h.2.1 j a (by
  have b : j < ((c.1 - 1 : Nat) : Int) := b
  omega), h.2.2⟩
theorem rkW_top {c : rkC} (h : rkW c) (hn : 0 < c.1) (hb : rkPo c ((c.1 : Int) - 1) ≤ 30) : rkW (rkTop c) := by
  unfold rkTop
  have q := h.2.1 ((c.1 : Int) - 1) (by omega) (by omega)
  by_cases hj : rkPo c ((c.1 : Int) - 1) = 29 ∨ rkPo c ((c.1 : Int) - 1) = 30
  · rw [if_pos hj]
    exact ⟨h.1, fun j a b => h.2.1 j a (by
      have b : j < ((c.1 - 1 : Nat) : Int) := b
      omega), h.2.2⟩
  · rw [if_neg hj]
    exact rkW_emit (rkW_pop h) (Or.inr ⟨q.1, hb⟩)
theorem rkBd_le {op : Int} (h : 1 ≤ rkBd op) : op ≤ 30 := by
  unfold rkBd at h
  by_cases g : 31 ≤ op
  · rw [if_pos g] at h
    omega
  · omega
theorem rkTop_s {c : rkC} (hn : 0 < c.1) : ((rkTop c).1 : Int) + rkM (rkTop c) ≤ (c.1 : Int) + rkM c := by
  unfold rkTop
  by_cases hj : rkPo c ((c.1 : Int) - 1) = 29 ∨ rkPo c ((c.1 : Int) - 1) = 30
  · rw [if_pos hj]
    show ((c.1 - 1 : Nat) : Int) + rkM c ≤ _
    omega
  · rw [if_neg hj]
    show ((c.1 - 1 : Nat) : Int) + (rkM c + 1) ≤ _
    omega
theorem rkRd_w {l : Int} (hl : 1 ≤ l) : ∀ (k : Nat) (c : rkC), rkW c → rkW (rkRd l k c) ∧ ((rkRd l k c).1 : Int) + rkM (rkRd l k c) ≤ (c.1 : Int) + rkM c
  | 0, c, h => ⟨h, Int.le_refl _⟩
  | k + 1, c, h => by
    show rkW (if 0 < c.1 ∧ l ≤ rkBd (rkPo c ((c.1 : Int) - 1)) then rkRd l k (rkTop c) else c) ∧ ((if 0 < c.1 ∧ l ≤ rkBd (rkPo c ((c.1 : Int) - 1)) then rkRd l k (rkTop c) else c).1 : Int) + rkM (if 0 < c.1 ∧ l ≤ rkBd (rkPo c ((c.1 : Int) - 1)) then rkRd l k (rkTop c) else c) ≤ (c.1 : Int) + rkM c
    by_cases g : 0 < c.1 ∧ l ≤ rkBd (rkPo c ((c.1 : Int) - 1))
    · rw [if_pos g]
      have q := rkRd_w hl k (rkTop c) (rkW_top h g.1 (rkBd_le (by omega)))
      have s := rkTop_s g.1
      exact ⟨q.1, by omega⟩
    · rw [if_neg g]
      exact ⟨h, Int.le_refl _⟩
theorem rkRed_w {l : Int} (hl : 1 ≤ l) {c : rkC} (h : rkW c) : rkW (rkRed l c) ∧ ((rkRed l c).1 : Int) + rkM (rkRed l c) ≤ (c.1 : Int) + rkM c := rkRd_w hl _ _ h
noncomputable def rkEn (op : Int) : Int := if op = 0 then 1 else if op ≤ 8 then 2 else if op ≤ 27 then op - 14 else if op ≤ 30 then op - 25 else 0
noncomputable def rkEi (b op a : Int) : Int := if op = 0 then a else if op ≤ 8 then op - 1 else if op = 29 ∨ op = 30 then (if a = 0 then 0 else b + a) else 0
theorem rkEn_j {o : Int} (h0 : 20 ≤ o) (h1 : o ≤ 32) : (rkEn o = 4 ∨ rkEn o = 5) ↔ (o = 29 ∨ o = 30) := by
  unfold rkEn
  rw [if_neg (by omega), if_neg (by omega)]
  by_cases h : o ≤ 27
  · rw [if_pos h]
    omega
  · rw [if_neg h]
    by_cases g : o ≤ 30
    · rw [if_pos g]
      omega
    · rw [if_neg g]
      omega
theorem rkEn_s {o : Int} (h0 : 20 ≤ o) (h1 : o ≤ 32) : rzStr (rkEn o) = rkBd o := by
  have e : o = 20 ∨ o = 21 ∨ o = 22 ∨ o = 23 ∨ o = 24 ∨ o = 25 ∨ o = 26 ∨ o = 27 ∨ o = 28 ∨ o = 29 ∨ o = 30 ∨ o = 31 ∨ o = 32 := by omega
  rcases e with rfl | rfl | rfl | rfl | rfl | rfl | rfl | rfl | rfl | rfl | rfl | rfl | rfl <;> decide
theorem rkEi_0 {b o : Int} (h : 20 ≤ o) (hj : ¬ (o = 29 ∨ o = 30)) : rkEi b o 0 = 0 := by
  unfold rkEi
  rw [if_neg (by omega), if_neg (by omega), if_neg hj]
theorem rkEi_j {b o a : Int} (hj : o = 29 ∨ o = 30) (ha : a ≠ 0) : rkEi b o a = b + a := by
  unfold rkEi
  rw [if_neg (by omega), if_neg (by omega), if_pos hj, if_neg ha]
theorem rkEi_z {b o : Int} (h : 20 ≤ o) : rkEi b o 0 = 0 := by
  unfold rkEi
  rw [if_neg (by omega), if_neg (by omega), if_pos rfl]
  split <;> rfl
theorem rkEn_29 : rkEn 29 = 4 := by decide
theorem rkEn_30 : rkEn 30 = 5 := by decide
theorem rkEn_28 : rkEn 28 = 3 := by decide
theorem rkEn_br {o : Int} (h : o = 31 ∨ o = 32) : rkEn o = 0 := by
  rcases h with rfl | rfl <;> decide
theorem rkEn_nm {o : Int} (h : 1 ≤ o) (h8 : o ≤ 8) : rkEn o = 2 := by
  unfold rkEn
  rw [if_neg (by omega), if_pos h8]
theorem rkEi_nm {b o a : Int} (h : 1 ≤ o) (h8 : o ≤ 8) : rkEi b o a = o - 1 := by
  unfold rkEi
  rw [if_neg (by omega), if_pos h8]
theorem rkEn_2 {o : Int} (h : 20 ≤ o) (h7 : o ≤ 27) : rkEn o = o - 14 := by
  unfold rkEn
  rw [if_neg (by omega), if_neg (by omega), if_pos h7]
noncomputable def rkD (S : Nat → Int → Int) (b : Int) (c : rkC) : Prop := 0 ≤ b ∧ 0 ≤ rkM c ∧ S 412 10 = (c.1 : Int) ∧ S 427 0 = b + rkM c ∧ (∀ j : Int, 0 ≤ j → j < (c.1 : Int) → S 425 j = rkEn (rkPo c j) ∧ (rkJ (rkPo c j) → S 426 j = b + rkPa c j)) ∧ ∀ i : Int, 0 ≤ i → i < rkM c → S 428 (b + i) = rkEn (rkFo c i) ∧ S 429 (b + i) = rkEi b (rkFo c i) (rkFa c i)
noncomputable def rkFr (S S_p : Nat → Int → Int) (b : Int) : Prop := ∀ i : Int, 0 ≤ i → i < b → S_p 428 i = S 428 i ∧ S_p 429 i = S 429 i
theorem rkFr_rf {S : Nat → Int → Int} {b : Int} : rkFr S S b := fun _ _ _ => ⟨rfl, rfl⟩
theorem rkFr.tr {S S1 S2 : Nat → Int → Int} {b : Int} (h : rkFr S S1 b) (g : rkFr S1 S2 b) : rkFr S S2 b := fun i a c => ⟨(g i a c).1.trans (h i a c).1, (g i a c).2.trans (h i a c).2⟩
theorem rkD_emit {S S_p : Nat → Int → Int} {b op a : Int} {c : rkC} (h : rkD S b c) (e10 : S_p 412 10 = S 412 10) (z : S_p 427 0 = S 427 0 + 1) (w : ∀ j : Int, S_p 425 j = S 425 j ∧ S_p 426 j = S 426 j) (s8 : ∀ i : Int, i ≠ S 427 0 → S_p 428 i = S 428 i) (s9 : ∀ i : Int, i ≠ S 427 0 → S_p 429 i = S 429 i) (a8 : S_p 428 (S 427 0) = rkEn op) (a9 : S_p 429 (S 427 0) = rkEi b op a) : rkD S_p b (rkEmit op a c) ∧ rkFr S S_p b := by
  obtain ⟨h0, m0, h1, h2, h3, h4⟩ := h
  refine ⟨⟨h0, show 0 ≤ rkM c + 1 by omega, e10.trans h1, show S_p 427 0 = b + (rkM c + 1) by omega, fun j p q => ?_, fun i p q => ?_⟩, fun i p q => ⟨s8 i (by omega), s9 i (by omega)⟩⟩
  · rw [(w j).1, (w j).2]
    exact h3 j p q
  · have q : i < rkM c + 1 := q
    show S_p 428 (b + i) = rkEn (rkUp (rkFo c) (rkM c) op i) ∧ S_p 429 (b + i) = rkEi b (rkUp (rkFo c) (rkM c) op i) (rkUp (rkFa c) (rkM c) a i)
    by_cases hi : i = rkM c
    · rw [hi, rkUp_at, rkUp_at, ← h2]
      exact ⟨a8, a9⟩
    · rw [rkUp_ne hi, rkUp_ne hi, s8 _ (by omega), s9 _ (by omega)]
      exact h4 i p (by omega)
theorem rkD_push {S S_p : Nat → Int → Int} {b op a : Int} {c : rkC} (h : rkD S b c) (e10 : S_p 412 10 = S 412 10 + 1) (z : S_p 427 0 = S 427 0) (w5 : ∀ j : Int, j ≠ S 412 10 → S_p 425 j = S 425 j) (w6 : ∀ j : Int, j ≠ S 412 10 → S_p 426 j = S 426 j) (s : ∀ i : Int, S_p 428 i = S 428 i ∧ S_p 429 i = S 429 i) (a5 : S_p 425 (S 412 10) = rkEn op) (a6 : rkJ op → S_p 426 (S 412 10) = b + a) : rkD S_p b (rkPush op a c) ∧ rkFr S S_p b := by
  obtain ⟨h0, m0, h1, h2, h3, h4⟩ := h
  refine ⟨⟨h0, m0, show S_p 412 10 = ((c.1 + 1 : Nat) : Int) by omega, z.trans h2, fun j p q => ?_, fun i p q => ?_⟩, fun i p q => s i⟩
  · have q : j < ((c.1 + 1 : Nat) : Int) := q
    show S_p 425 j = rkEn (rkUp (rkPo c) ((c.1 : Int)) op j) ∧ (rkJ (rkUp (rkPo c) ((c.1 : Int)) op j) → S_p 426 j = b + rkUp (rkPa c) ((c.1 : Int)) a j)
    by_cases hi : j = (c.1 : Int)
    · rw [hi, rkUp_at, rkUp_at, ← h1]
      exact ⟨a5, a6⟩
    · rw [rkUp_ne hi, rkUp_ne hi, w5 _ (by omega), w6 _ (by omega)]
      exact h3 j p (by omega)
  · rw [(s (b + i)).1, (s (b + i)).2]
    exact h4 i p q
theorem rkD_pop {S S_p : Nat → Int → Int} {b : Int} {c : rkC} (h : rkD S b c) (hn : 0 < c.1) (e10 : S_p 412 10 = S 412 10 - 1) (z : S_p 427 0 = S 427 0) (w : ∀ j : Int, S_p 425 j = S 425 j ∧ S_p 426 j = S 426 j) (s : ∀ i : Int, S_p 428 i = S 428 i ∧ S_p 429 i = S 429 i) : rkD S_p b (rkPop c) ∧ rkFr S S_p b := by
  obtain ⟨h0, m0, h1, h2, h3, h4⟩ := h
  refine ⟨⟨h0, m0, show S_p 412 10 = ((c.1 - 1 : Nat) : Int) by omega, z.trans h2, fun j p q => ?_, fun i p q => ?_⟩, fun i p q => s i⟩
  · have q : j < ((c.1 - 1 : Nat) : Int) := q
    rw [(w j).1, (w j).2]
    exact h3 j p (by omega)
  · rw [(s (b + i)).1, (s (b + i)).2]
    exact h4 i p q
theorem rkD_cg {S S_p : Nat → Int → Int} {b : Int} {c : rkC} (h : rkD S b c) (hn : S 412 10 ≤ 400) (hz : S 427 0 ≤ 400) (e10 : S_p 412 10 = S 412 10) (z : S_p 427 0 = S 427 0) (w : ∀ j : Int, 0 ≤ j → j < 400 → S_p 425 j = S 425 j ∧ S_p 426 j = S 426 j) (s : ∀ i : Int, 0 ≤ i → i < 400 → S_p 428 i = S 428 i ∧ S_p 429 i = S 429 i) : rkD S_p b c ∧ rkFr S S_p b := by
  obtain ⟨h0, m0, h1, h2, h3, h4⟩ := h
  refine ⟨⟨h0, m0, e10.trans h1, z.trans h2, fun j p q => ?_, fun i p q => ?_⟩, fun i p q => s i p (by omega)⟩
  · rw [(w j p (by omega)).1, (w j p (by omega)).2]
    exact h3 j p q
  · rw [(s (b + i) (by omega) (by omega)).1, (s (b + i) (by omega) (by omega)).2]
    exact h4 i p q
theorem rkD_tj {S S_p : Nat → Int → Int} {b : Int} {c : rkC} (h : rkD S b c) (hW : rkW c) (hn : 0 < c.1) (hj : S 425 (S 412 10 - 1) = 4 ∨ S 425 (S 412 10 - 1) = 5) (e10 : S_p 412 10 = S 412 10 - 1) (z : S_p 427 0 = S 427 0) (w : ∀ j : Int, S_p 425 j = S 425 j ∧ S_p 426 j = S 426 j) (s8 : ∀ i : Int, S_p 428 i = S 428 i) (s9 : ∀ i : Int, i ≠ S 426 (S 412 10 - 1) → S_p 429 i = S 429 i) (a9 : S_p 429 (S 426 (S 412 10 - 1)) = S 427 0) : rkD S_p b (rkTop c) ∧ rkFr S S_p b := by
  obtain ⟨h0, m0, h1, h2, h3, h4⟩ := h
  have q := hW.2.1 ((c.1 : Int) - 1) (by omega) (by omega)
  have r := h3 ((c.1 : Int) - 1) (by omega) (by omega)
  rw [h1] at hj s9 a9
  have hj2 : rkPo c ((c.1 : Int) - 1) = 29 ∨ rkPo c ((c.1 : Int) - 1) = 30 := (rkEn_j q.1 q.2.1).mp (by
    rw [← r.1]
    exact hj)
  have q3 := q.2.2 hj2
  rw [r.2 hj2] at s9 a9
  unfold rkTop
  rw [if_pos hj2]
  refine ⟨⟨h0, m0, show S_p 412 10 = ((c.1 - 1 : Nat) : Int) by omega, z.trans h2, fun j p g => ?_, fun i p g => ?_⟩, fun i p g => ⟨s8 i, s9 i (by omega)⟩⟩
  · have g : j < ((c.1 - 1 : Nat) : Int) := g
    rw [(w j).1, (w j).2]
    exact h3 j p (by omega)
  · have g : i < rkM c := g
    show S_p 428 (b + i) = rkEn (rkFo c i) ∧ S_p 429 (b + i) = rkEi b (rkFo c i) (rkUp (rkFa c) (rkPa c ((c.1 : Int) - 1)) (rkM c) i)
    rw [s8]
    refine ⟨(h4 i p g).1, ?_⟩
    by_cases hi : i = rkPa c ((c.1 : Int) - 1)
    · rw [hi, rkUp_at, a9, h2, q3.2.2, rkEi_j hj2 (by omega)]
    · rw [rkUp_ne hi, s9 _ (by omega)]
      exact (h4 i p g).2
theorem rkD_te {S S_p : Nat → Int → Int} {b : Int} {c : rkC} (h : rkD S b c) (hW : rkW c) (hn : 0 < c.1) (hj : ¬ (S 425 (S 412 10 - 1) = 4 ∨ S 425 (S 412 10 - 1) = 5)) (e10 : S_p 412 10 = S 412 10 - 1) (z : S_p 427 0 = S 427 0 + 1) (w : ∀ j : Int, S_p 425 j = S 425 j ∧ S_p 426 j = S 426 j) (s8 : ∀ i : Int, i ≠ S 427 0 → S_p 428 i = S 428 i) (s9 : ∀ i : Int, i ≠ S 427 0 → S_p 429 i = S 429 i) (a8 : S_p 428 (S 427 0) = S 425 (S 412 10 - 1)) (a9 : S_p 429 (S 427 0) = 0) : rkD S_p b (rkTop c) ∧ rkFr S S_p b := by
  obtain ⟨h0, m0, h1, h2, h3, h4⟩ := h
  have q := hW.2.1 ((c.1 : Int) - 1) (by omega) (by omega)
  have r := h3 ((c.1 : Int) - 1) (by omega) (by omega)
  rw [h1] at hj a8
  have hj2 : ¬ (rkPo c ((c.1 : Int) - 1) = 29 ∨ rkPo c ((c.1 : Int) - 1) = 30) := fun g => hj (by
    rw [r.1]
    exact (rkEn_j q.1 q.2.1).mpr g)
  unfold rkTop
  rw [if_neg hj2]
  refine ⟨⟨h0, show 0 ≤ rkM c + 1 by omega, show S_p 412 10 = ((c.1 - 1 : Nat) : Int) by omega, show S_p 427 0 = b + (rkM c + 1) by omega, fun j p g => ?_, fun i p g => ?_⟩, fun i p g => ⟨s8 i (by omega), s9 i (by omega)⟩⟩
  · have g : j < ((c.1 - 1 : Nat) : Int) := g
    rw [(w j).1, (w j).2]
    exact h3 j p (by omega)
  · have g : i < rkM c + 1 := g
    show S_p 428 (b + i) = rkEn (rkUp (rkFo c) (rkM c) (rkPo c ((c.1 : Int) - 1)) i) ∧ S_p 429 (b + i) = rkEi b (rkUp (rkFo c) (rkM c) (rkPo c ((c.1 : Int) - 1)) i) (rkUp (rkFa c) (rkM c) 0 i)
    by_cases hi : i = rkM c
    · rw [hi, rkUp_at, rkUp_at, ← h2, a8, a9, r.1, rkEi_0 q.1 hj2]
      exact ⟨rfl, rfl⟩
    · rw [rkUp_ne hi, rkUp_ne hi, s8 _ (by omega), s9 _ (by omega)]
      exact h4 i p (by omega)
noncomputable def rkRl (S0 S : Nat → Int → Int) (least : Int) : Prop := 1 ≤ least → ∀ (b : Int) (c : rkC), rkD S0 b c → rkW c → b + (c.1 : Int) + rkM c ≤ 399 → ∃ c_p : rkC, rkD S b c_p ∧ rkW c_p ∧ b + (c_p.1 : Int) + rkM c_p ≤ 399 ∧ rkRed least c_p = rkRed least c ∧ rkFr S0 S b
theorem rkRl_0 {S : Nat → Int → Int} {least : Int} : rkRl S S least := fun _ b c h w g => ⟨c, h, w, g, rfl, rkFr_rf⟩
theorem rkRl_end {S0 S S_p : Nat → Int → Int} {least : Int} (h : rkRl S0 S least) (e : S_p = S) (hz : S 412 10 ≤ 0 ∨ rzStr (S 425 (S 412 10 - 1)) < least) : 1 ≤ least → ∀ (b : Int) (c : rkC), rkD S0 b c → rkW c → b + (c.1 : Int) + rkM c ≤ 399 → rkD S_p b (rkRed least c) ∧ rkFr S0 S_p b := fun hl b c d w g => by
  obtain ⟨c_p, d1, d2, d3, d4, d5⟩ := h hl b c d w g
  subst e
  refine ⟨?_, d5⟩
  rw [← d4, rkRed_n fun q => ?_]
  · exact d1
  · have e1 := d1.2.2.1
    have q2 := d2.2.1 ((c_p.1 : Int) - 1) (by omega) (by omega)
    have r := d1.2.2.2.2.1 ((c_p.1 : Int) - 1) (by omega) (by omega)
    rw [e1, r.1, rkEn_s q2.1 q2.2.1] at hz
    omega
theorem rkRl_step {S0 S S_p : Nat → Int → Int} {least : Int} (h : rkRl S0 S least) (h0 : 0 < S 412 10) (hs : least ≤ rzStr (S 425 (S 412 10 - 1))) (g : ∀ (b : Int) (c : rkC), rkD S b c → rkW c → 0 < c.1 → b + (c.1 : Int) + rkM c ≤ 399 → rkD S_p b (rkTop c) ∧ rkFr S S_p b) : rkRl S0 S_p least := fun hl b c d w k => by
  obtain ⟨c_p, d1, d2, d3, d4, d5⟩ := h hl b c d w k
  have n0 : 0 < c_p.1 := by
    have := d1.2.2.1
    omega
  have e1 := d1.2.2.1
  have q2 := d2.2.1 ((c_p.1 : Int) - 1) (by omega) (by omega)
  have r := d1.2.2.2.2.1 ((c_p.1 : Int) - 1) (by omega) (by omega)
  rw [e1, r.1, rkEn_s q2.1 q2.2.1] at hs
  obtain ⟨g1, g2⟩ := g b c_p d1 d2 n0 d3
  have s := rkTop_s n0
  exact ⟨rkTop c_p, g1, rkW_top d2 n0 (rkBd_le (by omega)), by omega, (rkRed_y n0 hs).symm.trans d4, d5.tr g2⟩
section RKST
variable {T : Int → Int} {n : Int} {ws : List (List Int)} {f s : Int} {rest : List Int} {c : rkC}
theorem rkSt_0 : rkSt T n ws f (s :: rest) false c = (if rzDg T n f = true then rkEmit 0 (rzNo T n f) c else if 0 ≤ rzIxn T n f ws 0 then rkEmit (rzIxn T n f ws 0 + 1) 0 c else if s = 1 ∧ rzIs T n rzW_not f = true then rkPush 28 0 c else if s = 1 ∧ rzSg T n 40 f = true then rkPush 31 0 c else rkPush 32 0 c) := rfl
theorem rkSt_1 : rkSt T n ws f (s :: rest) true c = (if rest ≠ [] ∧ s = 0 ∧ rzSg T n 93 f = true then rkPop (rkRed 1 c) else if rest ≠ [] ∧ (s = 3 ∨ s = 4) ∧ rzSg T n 41 f = true then rkPop (rkRed 1 c) else if (s = 3 ∨ s = 4) ∧ rzIs T n rzW_and f = true then rkPush 29 (rkM (rkRed 2 c)) (rkEmit 29 0 (rkRed 2 c)) else if (s = 3 ∨ s = 4) ∧ rzIs T n rzW_or f = true then rkPush 30 (rkM (rkRed 1 c)) (rkEmit 30 0 (rkRed 1 c)) else if T f = 43 then rkPush 20 0 (rkRed 5 c) else if T f = 45 then rkPush 21 0 (rkRed 5 c) else if T f = 42 then rkPush 22 0 (rkRed 6 c) else if T f = 47 then rkPush 23 0 (rkRed 6 c) else if T f = 37 then rkPush 24 0 (rkRed 6 c) else if T f = 60 then rkPush 25 0 (rkRed 4 c) else if T f = 62 then rkPush 26 0 (rkRed 4 c) else rkPush 27 0 (rkRed 4 c)) := rfl
theorem rkSt_num (h : rzDg T n f = true) : rkSt T n ws f (s :: rest) false c = rkEmit 0 (rzNo T n f) c := by
  rw [rkSt_0, if_pos h]
theorem rkSt_nam (h : ¬ rzDg T n f = true) (h2 : 0 ≤ rzIxn T n f ws 0) : rkSt T n ws f (s :: rest) false c = rkEmit (rzIxn T n f ws 0 + 1) 0 c := by
  rw [rkSt_0, if_neg h, if_pos h2]
theorem rkSt_not (h : ¬ (rzDg T n f = true ∨ 0 ≤ rzIxn T n f ws 0)) (h2 : s = 1 ∧ rzIs T n rzW_not f = true) : rkSt T n ws f (s :: rest) false c = rkPush 28 0 c := by
  rw [rkSt_0, if_neg fun g => h (Or.inl g), if_neg fun g => h (Or.inr g), if_pos h2]
theorem rkSt_par (h : ¬ (rzDg T n f = true ∨ 0 ≤ rzIxn T n f ws 0)) (h2 : ¬ (s = 1 ∧ rzIs T n rzW_not f = true)) (h3 : s = 1 ∧ rzSg T n 40 f = true) : rkSt T n ws f (s :: rest) false c = rkPush 31 0 c := by
  rw [rkSt_0, if_neg fun g => h (Or.inl g), if_neg fun g => h (Or.inr g), if_neg h2, if_pos h3]
theorem rkSt_sq (h : ¬ (rzDg T n f = true ∨ 0 ≤ rzIxn T n f ws 0)) (h2 : ¬ (s = 1 ∧ rzIs T n rzW_not f = true)) (h3 : ¬ (s = 1 ∧ rzSg T n 40 f = true)) : rkSt T n ws f (s :: rest) false c = rkPush 32 0 c := by
  rw [rkSt_0, if_neg fun g => h (Or.inl g), if_neg fun g => h (Or.inr g), if_neg h2, if_neg h3]
theorem rkSt_cl (h : (rest ≠ [] ∧ s = 0 ∧ rzSg T n 93 f = true) ∨ (rest ≠ [] ∧ (s = 3 ∨ s = 4) ∧ rzSg T n 41 f = true)) : rkSt T n ws f (s :: rest) true c = rkPop (rkRed 1 c) := by
  rw [rkSt_1]
  by_cases g : rest ≠ [] ∧ s = 0 ∧ rzSg T n 93 f = true
  · rw [if_pos g]
  · rw [if_neg g, if_pos (h.resolve_left g)]
theorem rkSt_op (hc : rzNc T n f s rest) : (rzOp T n f s = 4 → rkSt T n ws f (s :: rest) true c = rkPush 29 (rkM (rkRed 2 c)) (rkEmit 29 0 (rkRed 2 c))) ∧ (rzOp T n f s = 5 → rkSt T n ws f (s :: rest) true c = rkPush 30 (rkM (rkRed 1 c)) (rkEmit 30 0 (rkRed 1 c))) ∧ (6 ≤ rzOp T n f s → rkSt T n ws f (s :: rest) true c = rkPush (rzOp T n f s + 14) 0 (rkRed (rzStr (rzOp T n f s)) c)) := by
  rw [rkSt_1, if_neg hc.1, if_neg hc.2]
  unfold rzOp
  by_cases ha : (s = 3 ∨ s = 4) ∧ rzIs T n rzW_and f = true
  · rw [if_pos ha, if_pos ha]
    exact ⟨fun _ => rfl, fun g => by omega, fun g => by omega⟩
  rw [if_neg ha, if_neg ha]
  by_cases ho : (s = 3 ∨ s = 4) ∧ rzIs T n rzW_or f = true
  · rw [if_pos ho, if_pos ho]
    exact ⟨fun g => by omega, fun _ => rfl, fun g => by omega⟩
  rw [if_neg ho, if_neg ho]
  by_cases h4 : s = 4 ∨ n ≤ f
  · rw [if_pos h4]
    exact ⟨fun g => by omega, fun g => by omega, fun g => by omega⟩
  rw [if_neg h4]
  by_cases k1 : T f = 43
  · rw [if_pos k1, if_pos k1]
    exact ⟨fun g => by omega, fun g => by omega, fun _ => rfl⟩
  rw [if_neg k1, if_neg k1]
  by_cases k2 : T f = 45
  · rw [if_pos k2, if_pos k2]
    exact ⟨fun g => by omega, fun g => by omega, fun _ => rfl⟩
  rw [if_neg k2, if_neg k2]
  by_cases k3 : T f = 42
  · rw [if_pos k3, if_pos k3]
    exact ⟨fun g => by omega, fun g => by omega, fun _ => rfl⟩
  rw [if_neg k3, if_neg k3]
  by_cases k4 : T f = 47
  · rw [if_pos k4, if_pos k4]
    exact ⟨fun g => by omega, fun g => by omega, fun _ => rfl⟩
  rw [if_neg k4, if_neg k4]
  by_cases k5 : T f = 37
  · rw [if_pos k5, if_pos k5]
    exact ⟨fun g => by omega, fun g => by omega, fun _ => rfl⟩
  rw [if_neg k5, if_neg k5]
  by_cases k6 : s = 2 ∧ T f = 60
  · rw [if_pos k6, if_pos k6.2]
    exact ⟨fun g => by omega, fun g => by omega, fun _ => rfl⟩
  rw [if_neg k6]
  by_cases k7 : s = 2 ∧ T f = 62
  · rw [if_pos k7, if_neg (show ¬ T f = 60 by omega), if_pos k7.2]
    exact ⟨fun g => by omega, fun g => by omega, fun _ => rfl⟩
  rw [if_neg k7]
  by_cases k8 : s = 2 ∧ T f = 61
  · rw [if_pos k8, if_neg (show ¬ T f = 60 by omega), if_neg (show ¬ T f = 62 by omega)]
    exact ⟨fun g => by omega, fun g => by omega, fun _ => rfl⟩
  rw [if_neg k8]
  exact ⟨fun g => by omega, fun g => by omega, fun g => by omega⟩
end RKST
noncomputable def rkTk (S0 S : Nat → Int → Int) (pr : Bool) : Prop := ∀ (b : Int) (c : rkC), rkD S0 b c → rkW c → b + (c.1 : Int) + rkM c ≤ 398 → rkD S b (rkSt (rzCut (S0 411)) (S0 412 1) (rzWs S0) (S0 412 2) (rzLv S0) pr c) ∧ rkFr S0 S b
theorem rkD_of {ms : List (Nat × Nat)} {S S_p : Nat → Int → Int} {b : Int} {c : rkC} (h : rkD S b c) (I0 : bx_Inv rxL S) (hs : bx_same rxL (bx_mdl ms) S S_p) (hk : [(7, 10), (6, 0), (1035, 0), (1036, 0), (1021, 0), (1022, 0)].all (fun q => !(bx_mdl ms q.1 q.2)) = true) : rkD S_p b c ∧ rkFr S S_p b := by
  have hq : ∀ a b : Nat, (a, b) ∈ [(7, 10), (6, 0), (1035, 0), (1036, 0), (1021, 0), (1022, 0)] → bx_mdl ms a b = false := fun a b hm => by
    have := List.all_eq_true.mp hk (a, b) hm
    rw [Bool.not_eq_true'] at this
    exact this
  have b10 : 0 ≤ S 412 10 ∧ S 412 10 ≤ 400 := I0 412 10 (by decide) (by decide)
  have bz : 0 ≤ S 427 0 ∧ S 427 0 ≤ 400 := I0 427 0 (by decide) (by decide)
  exact rkD_cg h b10.2 bz.2 (hs 412 10 (by decide) (by decide) (hq 7 10 (by decide))) (hs 427 0 (by decide) (by decide) (hq 6 0 (by decide)))
    (fun j p q => ⟨rz_fd hs (p := 425) (n := 400) (c := 1035) (k := 0) (hq 1035 0 (by decide)) (by decide) (by decide +kernel) j p q, rz_fd hs (p := 426) (n := 400) (c := 1036) (k := 0) (hq 1036 0 (by decide)) (by decide) (by decide +kernel) j p q⟩)
    (fun j p q => ⟨rz_fd hs (p := 428) (n := 400) (c := 1021) (k := 0) (hq 1021 0 (by decide)) (by decide) (by decide +kernel) j p q, rz_fd hs (p := 429) (n := 400) (c := 1022) (k := 0) (hq 1022 0 (by decide)) (by decide) (by decide +kernel) j p q⟩)
theorem rzIxn_le {T : Int → Int} {n f : Int} : ∀ {l : List (List Int)} {k : Int}, 0 ≤ k → rzIxn T n f l k < k + (l.length : Int) ∨ rzIxn T n f l k = -1
  | [], _, _ => Or.inr rfl
  | w :: r, k, h => by
    show (if rzIs T n w f = true then k else rzIxn T n f r (k + 1)) < k + ((w :: r).length : Int) ∨ (if rzIs T n w f = true then k else rzIxn T n f r (k + 1)) = -1
    have e : ((w :: r).length : Int) = (r.length : Int) + 1 := by simp
    rw [e]
    by_cases g : rzIs T n w f = true
    · rw [if_pos g]
      exact Or.inl (by omega)
    · rw [if_neg g]
      exact (rzIxn_le (l := r) (k := k + 1) (by omega)).imp (fun q => by omega) id
theorem rkEmit_s {op a : Int} {c : rkC} : ((rkEmit op a c).1 : Int) + rkM (rkEmit op a c) = (c.1 : Int) + rkM c + 1 := by
  show (c.1 : Int) + (rkM c + 1) = _
  omega
theorem rkPush_s {op a : Int} {c : rkC} : ((rkPush op a c).1 : Int) + rkM (rkPush op a c) = (c.1 : Int) + rkM c + 1 := by
  show ((c.1 + 1 : Nat) : Int) + rkM c = _
  omega
theorem rkPop_s {c : rkC} : ((rkPop c).1 : Int) + rkM (rkPop c) ≤ (c.1 : Int) + rkM c := by
  show ((c.1 - 1 : Nat) : Int) + rkM c ≤ _
  omega
theorem rkW_ao {c : rkC} {op : Int} (h : rkW c) (hj : op = 29 ∨ op = 30) : rkW (rkPush op (rkM c) (rkEmit op 0 c)) := by
  have h0 := h.1
  exact rkW_push (rkW_emit h (Or.inr (by omega))) (by omega) (by omega) fun _ => ⟨h0, show rkM c < rkM c + 1 by omega, rkUp_at⟩
theorem rkSt_w {T : Int → Int} {n : Int} {ws : List (List Int)} (hw : ws.length ≤ 8) {f s : Int} {rest : List Int} {c : rkC} {pr : Bool} (h : rkW c) : rkW (rkSt T n ws f (s :: rest) pr c) ∧ (((rkSt T n ws f (s :: rest) pr c).1 : Int) + rkM (rkSt T n ws f (s :: rest) pr c) ≤ (c.1 : Int) + rkM c + 1 ∨ ((rzIs T n rzW_and f = true ∨ rzIs T n rzW_or f = true) ∧ ((rkSt T n ws f (s :: rest) pr c).1 : Int) + rkM (rkSt T n ws f (s :: rest) pr c) ≤ (c.1 : Int) + rkM c + 2)) := by
  have hJ : ∀ {op : Int}, op ≠ 29 → op ≠ 30 → ¬ rkJ op := fun a b g => g.elim a b
  cases pr with
  | false =>
    rw [rkSt_0]
    by_cases h1 : rzDg T n f = true
    · rw [if_pos h1]
      exact ⟨rkW_emit h (Or.inl (by omega)), Or.inl (by rw [rkEmit_s]; omega)⟩
    rw [if_neg h1]
    by_cases h2 : 0 ≤ rzIxn T n f ws 0
    · rw [if_pos h2]
      have q := rzIxn_le (T := T) (n := n) (f := f) (l := ws) (k := 0) (Int.le_refl 0)
      exact ⟨rkW_emit h (Or.inl (by omega)), Or.inl (by rw [rkEmit_s]; omega)⟩
    rw [if_neg h2]
    by_cases h3 : s = 1 ∧ rzIs T n rzW_not f = true
    · rw [if_pos h3]
      exact ⟨rkW_push h (by omega) (by omega) fun g => absurd g (hJ (by omega) (by omega)), Or.inl (by rw [rkPush_s]; omega)⟩
    rw [if_neg h3]
    by_cases h4 : s = 1 ∧ rzSg T n 40 f = true
    · rw [if_pos h4]
      exact ⟨rkW_push h (by omega) (by omega) fun g => absurd g (hJ (by omega) (by omega)), Or.inl (by rw [rkPush_s]; omega)⟩
    rw [if_neg h4]
    exact ⟨rkW_push h (by omega) (by omega) fun g => absurd g (hJ (by omega) (by omega)), Or.inl (by rw [rkPush_s]; omega)⟩
  | true =>
    rw [rkSt_1]
    have hr : ∀ {l : Int}, 1 ≤ l → rkW (rkRed l c) ∧ ((rkRed l c).1 : Int) + rkM (rkRed l c) ≤ (c.1 : Int) + rkM c := fun hl => rkRed_w hl h
    have hp : ∀ {op l : Int}, 1 ≤ l → 20 ≤ op → op ≤ 32 → op ≠ 29 → op ≠ 30 → rkW (rkPush op 0 (rkRed l c)) ∧ (((rkPush op 0 (rkRed l c)).1 : Int) + rkM (rkPush op 0 (rkRed l c)) ≤ (c.1 : Int) + rkM c + 1 ∨ ((rzIs T n rzW_and f = true ∨ rzIs T n rzW_or f = true) ∧ ((rkPush op 0 (rkRed l c)).1 : Int) + rkM (rkPush op 0 (rkRed l c)) ≤ (c.1 : Int) + rkM c + 2)) := fun {op l} hl h20 h32 n1 n2 => by
      have q := hr hl
      exact ⟨rkW_push q.1 h20 h32 fun g => absurd g (hJ n1 n2), Or.inl (by rw [rkPush_s]; omega)⟩
    by_cases h1 : rest ≠ [] ∧ s = 0 ∧ rzSg T n 93 f = true
    · rw [if_pos h1]
      have q := hr (l := 1) (by omega)
      have s1 := rkPop_s (c := rkRed 1 c)
      exact ⟨rkW_pop q.1, Or.inl (by omega)⟩
    rw [if_neg h1]
    by_cases h2 : rest ≠ [] ∧ (s = 3 ∨ s = 4) ∧ rzSg T n 41 f = true
    · rw [if_pos h2]
      have q := hr (l := 1) (by omega)
      have s1 := rkPop_s (c := rkRed 1 c)
      exact ⟨rkW_pop q.1, Or.inl (by omega)⟩
    rw [if_neg h2]
    by_cases h3 : (s = 3 ∨ s = 4) ∧ rzIs T n rzW_and f = true
    · rw [if_pos h3]
      have q := hr (l := 2) (by omega)
      exact ⟨rkW_ao q.1 (Or.inl rfl), Or.inr ⟨Or.inl h3.2, by rw [rkPush_s, rkEmit_s]; omega⟩⟩
    rw [if_neg h3]
    by_cases h4 : (s = 3 ∨ s = 4) ∧ rzIs T n rzW_or f = true
    · rw [if_pos h4]
      have q := hr (l := 1) (by omega)
      exact ⟨rkW_ao q.1 (Or.inr rfl), Or.inr ⟨Or.inr h4.2, by rw [rkPush_s, rkEmit_s]; omega⟩⟩
    rw [if_neg h4]
    by_cases k1 : T f = 43
    · rw [if_pos k1]
      exact hp (by omega) (by omega) (by omega) (by omega) (by omega)
    rw [if_neg k1]
    by_cases k2 : T f = 45
    · rw [if_pos k2]
      exact hp (by omega) (by omega) (by omega) (by omega) (by omega)
    rw [if_neg k2]
    by_cases k3 : T f = 42
    · rw [if_pos k3]
      exact hp (by omega) (by omega) (by omega) (by omega) (by omega)
    rw [if_neg k3]
    by_cases k4 : T f = 47
    · rw [if_pos k4]
      exact hp (by omega) (by omega) (by omega) (by omega) (by omega)
    rw [if_neg k4]
    by_cases k5 : T f = 37
    · rw [if_pos k5]
      exact hp (by omega) (by omega) (by omega) (by omega) (by omega)
    rw [if_neg k5]
    by_cases k6 : T f = 60
    · rw [if_pos k6]
      exact hp (by omega) (by omega) (by omega) (by omega) (by omega)
    rw [if_neg k6]
    by_cases k7 : T f = 62
    · rw [if_pos k7]
      exact hp (by omega) (by omega) (by omega) (by omega) (by omega)
    rw [if_neg k7]
    exact hp (by omega) (by omega) (by omega) (by omega) (by omega)
theorem rkD_ne {S S_p : Nat → Int → Int} {b : Int} {c : rkC} (h : rkD S b c) (e10 : S_p 412 10 = S 412 10) (z : S_p 427 0 = S 427 0) (w : ∀ j : Int, S_p 425 j = S 425 j ∧ S_p 426 j = S 426 j) (s : ∀ i : Int, S_p 428 i = S 428 i ∧ S_p 429 i = S 429 i) : rkD S_p b c ∧ rkFr S S_p b := by
  obtain ⟨h0, m0, h1, h2, h3, h4⟩ := h
  refine ⟨⟨h0, m0, e10.trans h1, z.trans h2, fun j p q => ?_, fun i p q => ?_⟩, fun i p q => s i⟩
  · rw [(w j).1, (w j).2]
    exact h3 j p q
  · rw [(s (b + i)).1, (s (b + i)).2]
    exact h4 i p q
noncomputable def rkDo (S : Nat → Int → Int) (b : Int) (d : rkC) : Prop := 0 ≤ rkM d ∧ S 427 0 = b + rkM d + 1 ∧ S 428 (b + rkM d) = 0 ∧ ∀ i : Int, 0 ≤ i → i < rkM d → S 428 (b + i) = rkEn (rkFo d i) ∧ S 429 (b + i) = rkEi b (rkFo d i) (rkFa d i)
theorem rkDo_of {S S_p : Nat → Int → Int} {b : Int} {c : rkC} (h : rkD S b c) (z : S_p 427 0 = S 427 0 + 1) (a8 : S_p 428 (S 427 0) = 0) (s8 : ∀ i : Int, i ≠ S 427 0 → S_p 428 i = S 428 i) (s9 : ∀ i : Int, i ≠ S 427 0 → S_p 429 i = S 429 i) : rkDo S_p b c ∧ rkFr S S_p b := by
  obtain ⟨h0, m0, h1, h2, h3, h4⟩ := h
  refine ⟨⟨m0, by omega, by rw [← h2]; exact a8, fun i p q => ?_⟩, fun i p q => ⟨s8 i (by omega), s9 i (by omega)⟩⟩
  rw [s8 _ (by omega), s9 _ (by omega)]
  exact h4 i p q
theorem rzNo_dg {T : Int → Int} {n f : Int} (h : 0 ≤ rzNo T n f) : rzDg T n f = true := by
  unfold rzNo at h
  by_cases g : rzDg T n f = true
  · exact g
  · rw [if_neg g] at h
    omega
theorem rzNo_nd {T : Int → Int} {n f : Int} (h : rzNo T n f < 0) : ¬ rzDg T n f = true := fun g => by
  unfold rzNo at h
  rw [if_pos g] at h
  have key : ∀ m : Nat, (∀ i : Nat, i < m → 48 ≤ T (f + (i : Int)) ∧ T (f + (i : Int)) ≤ 57) → 0 ≤ rzNm T f m := fun m => by
    induction m with
    | zero => exact fun _ => Int.le_refl 0
    | succ m ih =>
      intro hm
      have q := ih fun i hi => hm i (by omega)
      have r := hm m (by omega)
      show 0 ≤ (if rzNm T f m * 10 + T (f + (m : Int)) - 48 ≤ 1001 then rzNm T f m * 10 + T (f + (m : Int)) - 48 else 1001)
      split <;> omega
  obtain ⟨g1, g2⟩ := (show f < n ∧ rzG (T f) = true from of_decide_eq_true g)
  have hl : rzL (T f) = false := by
    cases hb : rzL (T f) with
    | false => rfl
    | true =>
      have a := rzL_b hb
      have c := rzG_b g2
      omega
  have q := key (rzT T n f - f).toNat fun i hi => rzG_b (rzT_gs g1 hl g2 (by omega) (by omega))
  omega
theorem rzWs_len {S : Nat → Int → Int} : (rzWs S).length ≤ 8 := by
  unfold rzWs
  by_cases h : S 412 5 = 1
  · rw [if_pos h]
    decide
  · rw [if_neg h]
    decide
theorem rzOp_str {T : Int → Int} {n f s st : Int} (h : st ≠ -1) (e : st = rzOp T n f s) : 1 ≤ rzStr st := by
  unfold rzOp at e
  (repeat' split at e) <;> subst e <;> first | exact absurd rfl h | decide
end
section
noncomputable def rkAi (b op a : Int) : Int := if op = 29 ∨ op = 30 then (if a = 0 then 0 else b + a) else a
theorem rkAi_j {b o a : Int} (hj : o = 29 ∨ o = 30) (ha : a ≠ 0) : rkAi b o a = b + a := by
  unfold rkAi
  rw [if_pos hj, if_neg ha]
theorem rkAi_0 {b o : Int} : rkAi b o 0 = 0 := by
  unfold rkAi
  rw [if_pos rfl]
  split <;> rfl
theorem rkAi_n {b o a : Int} (hj : ¬ (o = 29 ∨ o = 30)) : rkAi b o a = a := if_neg hj
noncomputable def rkMd (S : Nat → Int → Int) (b : Int) (c : rkC) : Prop := 0 ≤ b ∧ 0 ≤ rkM c ∧ S 480 24 = (c.1 : Int) ∧ S 480 18 = b + rkM c ∧ (∀ j : Int, 0 ≤ j → j < (c.1 : Int) → S 489 j = rkPo c j ∧ (rkJ (rkPo c j) → S 490 j = b + rkPa c j)) ∧ ∀ i : Int, 0 ≤ i → i < rkM c → S 487 (b + i) = rkFo c i ∧ S 488 (b + i) = rkAi b (rkFo c i) (rkFa c i)
noncomputable def rkFm (S S_p : Nat → Int → Int) (b : Int) : Prop := ∀ i : Int, 0 ≤ i → i < b → S_p 487 i = S 487 i ∧ S_p 488 i = S 488 i
theorem rkFm_rf {S : Nat → Int → Int} {b : Int} : rkFm S S b := fun _ _ _ => ⟨rfl, rfl⟩
theorem rkFm.tr {S S1 S2 : Nat → Int → Int} {b : Int} (h : rkFm S S1 b) (g : rkFm S1 S2 b) : rkFm S S2 b := fun i a c => ⟨(g i a c).1.trans (h i a c).1, (g i a c).2.trans (h i a c).2⟩
theorem rkMd_ne {S S_p : Nat → Int → Int} {b : Int} {c : rkC} (h : rkMd S b c) (e24 : S_p 480 24 = S 480 24) (z : S_p 480 18 = S 480 18) (w : ∀ j : Int, S_p 489 j = S 489 j ∧ S_p 490 j = S 490 j) (s : ∀ i : Int, S_p 487 i = S 487 i ∧ S_p 488 i = S 488 i) : rkMd S_p b c ∧ rkFm S S_p b := by
  obtain ⟨h0, m0, h1, h2, h3, h4⟩ := h
  refine ⟨⟨h0, m0, e24.trans h1, z.trans h2, fun j p q => ?_, fun i p q => ?_⟩, fun i p q => s i⟩
  · rw [(w j).1, (w j).2]
    exact h3 j p q
  · rw [(s (b + i)).1, (s (b + i)).2]
    exact h4 i p q
theorem rkMd_cg {S S_p : Nat → Int → Int} {b : Int} {c : rkC} (h : rkMd S b c) (hn : S 480 24 ≤ 400) (hz : S 480 18 ≤ 400) (e24 : S_p 480 24 = S 480 24) (z : S_p 480 18 = S 480 18) (w : ∀ j : Int, 0 ≤ j → j < 400 → S_p 489 j = S 489 j ∧ S_p 490 j = S 490 j) (s : ∀ i : Int, 0 ≤ i → i < 400 → S_p 487 i = S 487 i ∧ S_p 488 i = S 488 i) : rkMd S_p b c ∧ rkFm S S_p b := by
  obtain ⟨h0, m0, h1, h2, h3, h4⟩ := h
  refine ⟨⟨h0, m0, e24.trans h1, z.trans h2, fun j p q => ?_, fun i p q => ?_⟩, fun i p q => s i p (by omega)⟩
  · rw [(w j p (by omega)).1, (w j p (by omega)).2]
    exact h3 j p q
  · rw [(s (b + i) (by omega) (by omega)).1, (s (b + i) (by omega) (by omega)).2]
    exact h4 i p q
theorem rkMd_em {S : Nat → Int → Int} {b op a x : Int} {c : rkC} (h : rkMd S b c) (hx : x = rkAi b op a) : rkMd (bx_up (bx_up (bx_up S 487 (S 480 18) op) 488 (S 480 18) x) 480 18 (S 480 18 + 1)) b (rkEmit op a c) ∧ rkFm S (bx_up (bx_up (bx_up S 487 (S 480 18) op) 488 (S 480 18) x) 480 18 (S 480 18 + 1)) b := by
  obtain ⟨h0, m0, h1, h2, h3, h4⟩ := h
  have s7 : ∀ i : Int, i ≠ S 480 18 → bx_up (bx_up (bx_up S 487 (S 480 18) op) 488 (S 480 18) x) 480 18 (S 480 18 + 1) 487 i = S 487 i := fun i hi => by rw [bx_up_ne (by omega), bx_up_ne (by omega), bx_up_ne (by omega)]
  have s8 : ∀ i : Int, i ≠ S 480 18 → bx_up (bx_up (bx_up S 487 (S 480 18) op) 488 (S 480 18) x) 480 18 (S 480 18 + 1) 488 i = S 488 i := fun i hi => by rw [bx_up_ne (by omega), bx_up_ne (by omega), bx_up_ne (by omega)]
  have a7 : bx_up (bx_up (bx_up S 487 (S 480 18) op) 488 (S 480 18) x) 480 18 (S 480 18 + 1) 487 (S 480 18) = op := by rw [bx_up_ne (by omega), bx_up_ne (by omega), bx_up_at]
  have a8 : bx_up (bx_up (bx_up S 487 (S 480 18) op) 488 (S 480 18) x) 480 18 (S 480 18 + 1) 488 (S 480 18) = x := by rw [bx_up_ne (by omega), bx_up_at]
  refine ⟨⟨h0, show 0 ≤ rkM c + 1 by omega, ?_, ?_, fun j p q => ?_, fun i p q => ?_⟩, fun i p q => ⟨s7 i (by omega), s8 i (by omega)⟩⟩
  · rw [bx_up_ne (by omega), bx_up_ne (by omega), bx_up_ne (by omega)]
    exact h1
  · rw [bx_up_at]
    show S 480 18 + 1 = b + (rkM c + 1)
    omega
  · rw [bx_up_ne (by omega), bx_up_ne (by omega), bx_up_ne (by omega), bx_up_ne (by omega), bx_up_ne (by omega), bx_up_ne (by omega)]
    exact h3 j p q
  · have q : i < rkM c + 1 := q
    show _ = rkUp (rkFo c) (rkM c) op i ∧ _ = rkAi b (rkUp (rkFo c) (rkM c) op i) (rkUp (rkFa c) (rkM c) a i)
    by_cases hi : i = rkM c
    · rw [hi, rkUp_at, rkUp_at, ← h2]
      exact ⟨a7, a8.trans hx⟩
    · rw [rkUp_ne hi, rkUp_ne hi, s7 _ (by omega), s8 _ (by omega)]
      exact h4 i p (by omega)
theorem rkMd_pu {S : Nat → Int → Int} {b op a x : Int} {c : rkC} (h : rkMd S b c) (hx : rkJ op → x = b + a) : rkMd (bx_up (bx_up (bx_up S 489 (S 480 24) op) 490 (S 480 24) x) 480 24 (S 480 24 + 1)) b (rkPush op a c) ∧ rkFm S (bx_up (bx_up (bx_up S 489 (S 480 24) op) 490 (S 480 24) x) 480 24 (S 480 24 + 1)) b := by
  obtain ⟨h0, m0, h1, h2, h3, h4⟩ := h
  have s7 : ∀ i : Int, bx_up (bx_up (bx_up S 489 (S 480 24) op) 490 (S 480 24) x) 480 24 (S 480 24 + 1) 487 i = S 487 i := fun i => by rw [bx_up_ne (by omega), bx_up_ne (by omega), bx_up_ne (by omega)]
  have s8 : ∀ i : Int, bx_up (bx_up (bx_up S 489 (S 480 24) op) 490 (S 480 24) x) 480 24 (S 480 24 + 1) 488 i = S 488 i := fun i => by rw [bx_up_ne (by omega), bx_up_ne (by omega), bx_up_ne (by omega)]
  have s9 : ∀ i : Int, i ≠ S 480 24 → bx_up (bx_up (bx_up S 489 (S 480 24) op) 490 (S 480 24) x) 480 24 (S 480 24 + 1) 489 i = S 489 i := fun i hi => by rw [bx_up_ne (by omega), bx_up_ne (by omega), bx_up_ne (by omega)]
  have s0 : ∀ i : Int, i ≠ S 480 24 → bx_up (bx_up (bx_up S 489 (S 480 24) op) 490 (S 480 24) x) 480 24 (S 480 24 + 1) 490 i = S 490 i := fun i hi => by rw [bx_up_ne (by omega), bx_up_ne (by omega), bx_up_ne (by omega)]
  refine ⟨⟨h0, m0, ?_, ?_, fun j p q => ?_, fun i p q => ?_⟩, fun i p q => ⟨s7 i, s8 i⟩⟩
  · rw [bx_up_at]
    show S 480 24 + 1 = ((c.1 + 1 : Nat) : Int)
    omega
  · rw [bx_up_ne (by omega), bx_up_ne (by omega), bx_up_ne (by omega)]
    exact h2
  · have q : j < ((c.1 + 1 : Nat) : Int) := q
    show _ = rkUp (rkPo c) (c.1 : Int) op j ∧ (rkJ (rkUp (rkPo c) (c.1 : Int) op j) → _ = b + rkUp (rkPa c) (c.1 : Int) a j)
    by_cases hi : j = (c.1 : Int)
    · rw [hi, rkUp_at, rkUp_at, ← h1]
      exact ⟨by rw [bx_up_ne (by omega), bx_up_ne (by omega), bx_up_at], fun g => by
        rw [bx_up_ne (by omega), bx_up_at]
        exact hx g⟩
    · rw [rkUp_ne hi, rkUp_ne hi, s9 _ (by omega), s0 _ (by omega)]
      exact h3 j p (by omega)
  · rw [s7, s8]
    exact h4 i p q
theorem rkMd_pop {S S_p : Nat → Int → Int} {b : Int} {c : rkC} (h : rkMd S b c) (hn : 0 < c.1) (e24 : S_p 480 24 = S 480 24 - 1) (z : S_p 480 18 = S 480 18) (w : ∀ j : Int, S_p 489 j = S 489 j ∧ S_p 490 j = S 490 j) (s : ∀ i : Int, S_p 487 i = S 487 i ∧ S_p 488 i = S 488 i) : rkMd S_p b (rkPop c) ∧ rkFm S S_p b := by
  obtain ⟨h0, m0, h1, h2, h3, h4⟩ := h
  refine ⟨⟨h0, m0, show S_p 480 24 = ((c.1 - 1 : Nat) : Int) by omega, z.trans h2, fun j p q => ?_, fun i p q => ?_⟩, fun i p q => s i⟩
  · have q : j < ((c.1 - 1 : Nat) : Int) := q
    rw [(w j).1, (w j).2]
    exact h3 j p (by omega)
  · rw [(s (b + i)).1, (s (b + i)).2]
    exact h4 i p q
theorem rkMd_tj {S1 S_p : Nat → Int → Int} {b : Int} {c : rkC} (h : rkMd S1 b c) (hW : rkW c) (hn : 0 < c.1) (hj : S1 489 (S1 480 24 - 1) = 29 ∨ S1 489 (S1 480 24 - 1) = 30) (e24 : S_p 480 24 = S1 480 24 - 1) (z : S_p 480 18 = S1 480 18) (w : ∀ j : Int, S_p 489 j = S1 489 j ∧ S_p 490 j = S1 490 j) (s7 : ∀ i : Int, S_p 487 i = S1 487 i) (s8 : ∀ i : Int, i ≠ S1 490 (S1 480 24 - 1) → S_p 488 i = S1 488 i) (a8 : S_p 488 (S1 490 (S1 480 24 - 1)) = S1 480 18) : rkMd S_p b (rkTop c) ∧ rkFm S1 S_p b := by
  obtain ⟨h0, m0, h1, h2, h3, h4⟩ := h
  have q := hW.2.1 ((c.1 : Int) - 1) (by omega) (by omega)
  have r := h3 ((c.1 : Int) - 1) (by omega) (by omega)
  rw [h1] at hj s8 a8
  have hj2 : rkPo c ((c.1 : Int) - 1) = 29 ∨ rkPo c ((c.1 : Int) - 1) = 30 := by
    rw [← r.1]
    exact hj
  have q3 := q.2.2 hj2
  rw [r.2 hj2] at s8 a8
  unfold rkTop
  rw [if_pos hj2]
  refine ⟨⟨h0, m0, show S_p 480 24 = ((c.1 - 1 : Nat) : Int) by omega, z.trans h2, fun j p g => ?_, fun i p g => ?_⟩, fun i p g => ⟨s7 i, s8 i (by omega)⟩⟩
  · have g : j < ((c.1 - 1 : Nat) : Int) := g
    rw [(w j).1, (w j).2]
    exact h3 j p (by omega)
  · have g : i < rkM c := g
    show _ = rkFo c i ∧ _ = rkAi b (rkFo c i) (rkUp (rkFa c) (rkPa c ((c.1 : Int) - 1)) (rkM c) i)
    rw [s7]
    refine ⟨(h4 i p g).1, ?_⟩
    by_cases hi : i = rkPa c ((c.1 : Int) - 1)
    · rw [hi, rkUp_at, a8, h2, q3.2.2, rkAi_j hj2 (by omega)]
    · rw [rkUp_ne hi, s8 _ (by omega)]
      exact (h4 i p g).2
noncomputable def rkMr (S0 S : Nat → Int → Int) (least : Int) : Prop := ∀ (b : Int) (c : rkC), rkMd S0 b c → rkW c → ∃ c_p : rkC, rkMd S b c_p ∧ rkW c_p ∧ rkRed least c_p = rkRed least c ∧ rkFm S0 S b
theorem rkMr_0 {S : Nat → Int → Int} {least : Int} : rkMr S S least := fun b c h w => ⟨c, h, w, rfl, rkFm_rf⟩
noncomputable def rkMe (S0 S : Nat → Int → Int) (least : Int) : Prop := ∀ (b : Int) (c : rkC), rkMd S0 b c → rkW c → rkMd S b (rkRed least c) ∧ rkFm S0 S b
theorem rkMr_end {S0 S : Nat → Int → Int} {least : Int} (h : rkMr S0 S least) (hz : S 480 24 = 0 ∨ rxBd (S 489 (S 480 24 - 1)) < least) : rkMe S0 S least := fun b c d w => by
  obtain ⟨c_p, d1, d2, d4, d5⟩ := h b c d w
  refine ⟨?_, d5⟩
  rw [← d4, rkRed_n fun q => ?_]
  · exact d1
  · have e1 := d1.2.2.1
    have r := d1.2.2.2.2.1 ((c_p.1 : Int) - 1) (by omega) (by omega)
    rw [e1, r.1] at hz
    have e : rxBd (rkPo c_p ((c_p.1 : Int) - 1)) = rkBd (rkPo c_p ((c_p.1 : Int) - 1)) := rfl
    omega
theorem rkMr_step {S0 S1 S_p : Nat → Int → Int} {least : Int} (h : rkMr S0 S1 least) (hl : 1 ≤ least) (h0 : 1 ≤ S1 480 24) (hs : least ≤ rxBd (S1 489 (S1 480 24 - 1))) (g : ∀ (b : Int) (c : rkC), rkMd S1 b c → rkW c → 0 < c.1 → rkMd S_p b (rkTop c) ∧ rkFm S1 S_p b) : rkMr S0 S_p least := fun b c d w => by
  obtain ⟨c_p, d1, d2, d4, d5⟩ := h b c d w
  have e1 := d1.2.2.1
  have n0 : 0 < c_p.1 := by omega
  have r := d1.2.2.2.2.1 ((c_p.1 : Int) - 1) (by omega) (by omega)
  rw [e1, r.1] at hs
  have e : rxBd (rkPo c_p ((c_p.1 : Int) - 1)) = rkBd (rkPo c_p ((c_p.1 : Int) - 1)) := rfl
  obtain ⟨g1, g2⟩ := g b c_p d1 d2 n0
  exact ⟨rkTop c_p, g1, rkW_top d2 n0 (rkBd_le (by omega)), (rkRed_y n0 (by omega)).symm.trans d4, d5.tr g2⟩
noncomputable def rkBk (S : Nat → Int → Int) : Nat → Int → Int := bx_up S 480 24 (S 480 24 + 1)
theorem rkBk_at {S1 : Nat → Int → Int} : rkBk (bx_up S1 480 24 (S1 480 24 - 1)) = S1 := by
  funext p i
  unfold rkBk
  by_cases h : p = 480 ∧ i = 24
  · obtain ⟨rfl, rfl⟩ := h
    rw [bx_up_at, bx_up_at]
    omega
  · rw [bx_up_ne h, bx_up_ne h]
theorem rkMd_of {ms : List (Nat × Nat)} {S S_p : Nat → Int → Int} {b : Int} {c : rkC} (h : rkMd S b c) (I0 : bx_Inv rxL S) (hs : bx_same rxL (bx_mdl ms) S S_p) (hk : [(12, 24), (12, 18), (1068, 0), (1069, 0), (1070, 0), (1071, 0)].all (fun q => !(bx_mdl ms q.1 q.2)) = true) : rkMd S_p b c ∧ rkFm S S_p b := by
  have hq : ∀ a b : Nat, (a, b) ∈ [(12, 24), (12, 18), (1068, 0), (1069, 0), (1070, 0), (1071, 0)] → bx_mdl ms a b = false := fun a b hm => by
    have := List.all_eq_true.mp hk (a, b) hm
    rw [Bool.not_eq_true'] at this
    exact this
  have b24 : 0 ≤ S 480 24 ∧ S 480 24 ≤ 400 := I0 480 24 (by decide) (by decide)
  have bz : 0 ≤ S 480 18 ∧ S 480 18 ≤ 400 := I0 480 18 (by decide) (by decide)
  exact rkMd_cg h b24.2 bz.2 (hs 480 24 (by decide) (by decide) (hq 12 24 (by decide))) (hs 480 18 (by decide) (by decide) (hq 12 18 (by decide)))
    (fun j p q => ⟨rz_fd hs (p := 489) (n := 400) (c := 1070) (k := 0) (hq 1070 0 (by decide)) (by decide) (by decide +kernel) j p q, rz_fd hs (p := 490) (n := 400) (c := 1071) (k := 0) (hq 1071 0 (by decide)) (by decide) (by decide +kernel) j p q⟩)
    (fun j p q => ⟨rz_fd hs (p := 487) (n := 400) (c := 1068) (k := 0) (hq 1068 0 (by decide)) (by decide) (by decide +kernel) j p q, rz_fd hs (p := 488) (n := 400) (c := 1069) (k := 0) (hq 1069 0 (by decide)) (by decide) (by decide +kernel) j p q⟩)
theorem rkMd_te {S1 : Nat → Int → Int} {b op : Int} {c : rkC} (h : rkMd S1 b c) (hW : rkW c) (hn : 0 < c.1) (hj : ¬ (S1 489 (S1 480 24 - 1) = 29 ∨ S1 489 (S1 480 24 - 1) = 30)) (ho : op = S1 489 (S1 480 24 - 1)) : rkMd (bx_up (bx_up (bx_up (bx_up S1 480 24 (S1 480 24 - 1)) 487 (S1 480 18) op) 488 (S1 480 18) 0) 480 18 (S1 480 18 + 1)) b (rkTop c) ∧ rkFm S1 (bx_up (bx_up (bx_up (bx_up S1 480 24 (S1 480 24 - 1)) 487 (S1 480 18) op) 488 (S1 480 18) 0) 480 18 (S1 480 18 + 1)) b := by
  have p := rkMd_pop (S_p := bx_up S1 480 24 (S1 480 24 - 1)) h hn bx_up_at (bx_up_ne (by omega)) (fun j => ⟨bx_up_ne (by omega), bx_up_ne (by omega)⟩) (fun j => ⟨bx_up_ne (by omega), bx_up_ne (by omega)⟩)
  have q := rkMd_em (op := op) (a := 0) (x := 0) p.1 rkAi_0.symm
  rw [show bx_up S1 480 24 (S1 480 24 - 1) 480 18 = S1 480 18 from bx_up_ne (by omega)] at q
  have r := h.2.2.2.2.1 ((c.1 : Int) - 1) (by omega) (by omega)
  rw [h.2.2.1] at hj ho
  have hj2 : ¬ (rkPo c ((c.1 : Int) - 1) = 29 ∨ rkPo c ((c.1 : Int) - 1) = 30) := by
    rw [← r.1]
    exact hj
  unfold rkTop
  rw [if_neg hj2, ← r.1, ← ho]
  exact ⟨q.1, p.2.tr q.2⟩
theorem rkRd_th {l l_p : Int} (hle : l ≤ l_p) : ∀ (k : Nat) (c : rkC) (lo : Int), c.1 ≤ k → -1 ≤ lo → lo < (c.1 : Int) → (∀ j : Int, lo < j → j < (c.1 : Int) → l_p ≤ rkBd (rkPo c j)) → (lo = -1 ∨ rkBd (rkPo c lo) < l) → rkRd l k c = rkRd l_p k c
  | 0, c, lo, hk, h0, h1, h2, h3 => rfl
  | k + 1, c, lo, hk, h0, h1, h2, h3 => by
    show (if 0 < c.1 ∧ l ≤ rkBd (rkPo c ((c.1 : Int) - 1)) then rkRd l k (rkTop c) else c) = (if 0 < c.1 ∧ l_p ≤ rkBd (rkPo c ((c.1 : Int) - 1)) then rkRd l_p k (rkTop c) else c)
    by_cases hz : lo = (c.1 : Int) - 1
    · have h4 : ¬ (0 < c.1 ∧ l ≤ rkBd (rkPo c ((c.1 : Int) - 1))) := fun g => by
        rcases h3 with h3 | h3
        · omega
        · rw [hz] at h3
          omega
      rw [if_neg h4, if_neg fun g => h4 ⟨g.1, by omega⟩]
    · have h5 := h2 ((c.1 : Int) - 1) (by omega) (by omega)
      have hc : 0 < c.1 := by omega
      rw [if_pos ⟨hc, by omega⟩, if_pos ⟨hc, h5⟩]
      have n := rkTop_n (c := c)
      have e : rkPo (rkTop c) = rkPo c := by
        unfold rkTop
        split <;> rfl
      exact rkRd_th hle k (rkTop c) lo (by omega) h0 (by omega) (fun j a b => by rw [e]; exact h2 j a (by omega)) (by rw [e]; exact h3)
theorem rkRed_th {l l_p : Int} (hle : l ≤ l_p) {c : rkC} {lo : Int} (h0 : -1 ≤ lo) (h1 : lo < (c.1 : Int)) (h2 : ∀ j : Int, lo < j → j < (c.1 : Int) → l_p ≤ rkBd (rkPo c j)) (h3 : lo = -1 ∨ rkBd (rkPo c lo) < l) : rkRed l c = rkRed l_p c := rkRd_th hle c.1 c lo (Nat.le_refl _) h0 h1 h2 h3
theorem rkBd_sum {v : Int} (h : 20 ≤ v ∧ v ≤ 24) : 5 ≤ rkBd v := by
  have e : v = 20 ∨ v = 21 ∨ v = 22 ∨ v = 23 ∨ v = 24 := by omega
  rcases e with rfl | rfl | rfl | rfl | rfl <;> decide
theorem rkBd_28 {v : Int} (h : 28 ≤ v) : rkBd v < 4 := by
  unfold rkBd
  split
  · omega
  · split
    · omega
    · split
      · omega
      · split
        · omega
        · omega
theorem rkRed_sq {S : Nat → Int → Int} {b tst : Int} {rest : List Int} {c : rkC} (h : rkMd S b c) (r : rzSr S tst (0 :: rest)) (hr : rest ≠ []) : rkRed 1 c = rkRed 5 c := by
  obtain ⟨bb, b0, b1, a1, a2, a3, a4, a5, a6⟩ := rzBr_top r.2.2 r.1
  obtain ⟨q0, q1⟩ := a5 hr
  have e1 := h.2.2.1
  have e : ∀ j : Int, 0 ≤ j → j < (c.1 : Int) → S 489 j = rkPo c j := fun j x y => (h.2.2.2.2.1 j x y).1
  refine rkRed_th (lo := bb) (by omega) b0 (by omega) (fun j x y => ?_) (Or.inr ?_)
  · rw [← e j (by omega) y]
    exact rkBd_sum (a3.1 rfl j (by omega) (by omega))
  · rw [← e bb (by omega) (by omega)]
    have h31 : 31 ≤ S 489 bb := by omega
    unfold rkBd
    rw [if_pos h31]
    omega
theorem rkCm_lo {P : Int → Int} : ∀ {n : Nat}, ¬ rzCm P (n : Int) → ∃ lo : Int, -1 ≤ lo ∧ lo < (n : Int) ∧ (∀ j : Int, lo < j → j < (n : Int) → 20 ≤ P j ∧ P j ≤ 24) ∧ (lo = -1 ∨ P lo < 20 ∨ 28 ≤ P lo)
  | 0, _ => ⟨-1, by omega, by omega, fun j a b => by omega, Or.inl rfl⟩
  | n + 1, h => by
    by_cases hs : 20 ≤ P (n : Int) ∧ P (n : Int) ≤ 24
    · obtain ⟨lo, l0, l1, l2, l3⟩ := rkCm_lo (P := P) (n := n) fun g => h (by
        obtain ⟨k, k0, k1, k2, k3, k4⟩ := g
        refine ⟨k, k0, by omega, k2, k3, fun j a b => ?_⟩
        by_cases hj : j = (n : Int)
        · rw [hj]
          exact hs
        · exact k4 j a (by omega))
      refine ⟨lo, l0, by omega, fun j a b => ?_, l3⟩
      by_cases hj : j = (n : Int)
      · rw [hj]
        exact hs
      · exact l2 j a (by omega)
    · refine ⟨(n : Int), by omega, by omega, fun j a b => by omega, Or.inr ?_⟩
      by_cases h2 : 25 ≤ P (n : Int) ∧ P (n : Int) ≤ 27
      · exact absurd ⟨(n : Int), by omega, by omega, h2.1, h2.2, fun j a b => by omega⟩ h
      · omega
theorem rkRed_cm {S : Nat → Int → Int} {b tst : Int} {rest : List Int} {c : rkC} (h : rkMd S b c) (hW : rkW c) (r : rzSr S tst (2 :: rest)) : rkRed 4 c = rkRed 5 c := by
  obtain ⟨bb, b0, b1, a1, a2, a3, a4, a5, a6⟩ := rzBr_top r.2.2 r.1
  have e1 := h.2.2.1
  have e : ∀ j : Int, 0 ≤ j → j < (c.1 : Int) → S 489 j = rkPo c j := fun j x y => (h.2.2.2.2.1 j x y).1
  have hc := a3.2.1 (Or.inr rfl)
  rw [e1] at hc
  obtain ⟨lo, l0, l1, l2, l3⟩ := rkCm_lo hc
  refine rkRed_th (lo := lo) (by omega) l0 l1 (fun j x y => ?_) ?_
  · rw [← e j (by omega) y]
    exact rkBd_sum (l2 j x y)
  · rcases l3 with l3 | l3
    · exact Or.inl l3
    · by_cases hl : lo = -1
      · exact Or.inl hl
      · refine Or.inr ?_
        have w := hW.2.1 lo (by omega) l1
        rw [e lo (by omega) l1] at l3
        exact rkBd_28 (by omega)
section RKSM
variable {T : Int → Int} {n : Int} {ws : List (List Int)} {f s : Int} {rest : List Int} {c : rkC}
theorem rkSt_sg (h0 : rzL (T f) = false) (h1 : T f ≠ 93) (h2 : T f ≠ 41) : rkSt T n ws f (s :: rest) true c = (if T f = 43 then rkPush 20 0 (rkRed 5 c) else if T f = 45 then rkPush 21 0 (rkRed 5 c) else if T f = 42 then rkPush 22 0 (rkRed 6 c) else if T f = 47 then rkPush 23 0 (rkRed 6 c) else if T f = 37 then rkPush 24 0 (rkRed 6 c) else if T f = 60 then rkPush 25 0 (rkRed 4 c) else if T f = 62 then rkPush 26 0 (rkRed 4 c) else rkPush 27 0 (rkRed 4 c)) := by
  have w : ∀ {v : List Int}, rzOkW v = true → ¬ rzIs T n v f = true := fun hv g => by
    have q := ((rzIs_iff hv).mp g).2.1
    rw [h0] at q
    cases q
  have sg : ∀ {x : Int}, T f ≠ x → ¬ rzSg T n x f = true := fun hx g => hx (of_decide_eq_true g : f < n ∧ T f = _).2
  rw [rkSt_1, if_neg fun g => sg h1 g.2.2, if_neg fun g => sg h2 g.2.2, if_neg fun g => w (by decide) g.2, if_neg fun g => w (by decide) g.2]
theorem rkSt_an (h : rzIs T n rzW_and f = true) (hs : s = 3 ∨ s = 4) : rkSt T n ws f (s :: rest) true c = rkPush 29 (rkM (rkRed 2 c)) (rkEmit 29 0 (rkRed 2 c)) := by
  have hl := ((rzIs_iff (by decide)).mp h).2.1
  have sg : ∀ {x : Int}, rzL x = false → ¬ rzSg T n x f = true := fun hx g => by
    rw [(of_decide_eq_true g : f < n ∧ T f = _).2, hx] at hl
    cases hl
  rw [rkSt_1, if_neg fun g => sg (by decide) g.2.2, if_neg fun g => sg (by decide) g.2.2, if_pos ⟨hs, h⟩]
theorem rkSt_or (h : rzIs T n rzW_or f = true) (hs : s = 3 ∨ s = 4) : rkSt T n ws f (s :: rest) true c = rkPush 30 (rkM (rkRed 1 c)) (rkEmit 30 0 (rkRed 1 c)) := by
  have hl := ((rzIs_iff (by decide)).mp h).2.1
  have sg : ∀ {x : Int}, rzL x = false → ¬ rzSg T n x f = true := fun hx g => by
    rw [(of_decide_eq_true g : f < n ∧ T f = _).2, hx] at hl
    cases hl
  have na : ¬ rzIs T n rzW_and f = true := fun g => by
    have e := rzIs_u h (v := rzW_and)
    rw [g] at e
    exact absurd e.symm (by decide)
  rw [rkSt_1, if_neg fun g => sg (by decide) g.2.2, if_neg fun g => sg (by decide) g.2.2, if_neg fun g => na g.2, if_pos ⟨hs, h⟩]
end RKSM
noncomputable def rkTq (S0 S : Nat → Int → Int) (lv : List Int) (pr : Bool) : Prop := S 480 14 = 0 → S 480 9 ≠ S0 480 9 → ∀ (b : Int) (c : rkC), rkMd S0 b c → rkW c → rkMd S b (rkSt (rzCut (S0 485)) (S0 480 8) (rzWr S0) (S0 480 9) lv pr c) ∧ rkFm S0 S b
end
section
noncomputable def rkXs (S0 S : Nat → Int → Int) (tst t : Int) : Prop := rzKr S0 S ∧ rzDq S ∧ ∃ (s : Int) (rest : List Int) (c : rkC), rzSr S tst (s :: rest) ∧ (rzTc t s ∨ (t = 2 ∧ s = 3 ∧ ¬ rzSm (rzCut (S 485)) (S 480 8) (S 480 9))) ∧ rkMd S (S0 480 18) c ∧ rkW c ∧ rkFm S0 S (S0 480 18) ∧ ∀ d : rkC, rkRes (rzCut (S0 485)) (S0 480 8) (rzWr S0) (S 480 9) (s :: rest) (decide (2 ≤ t)) (S 480 21) c d → rkEx (rzCut (S0 485)) (S0 480 8) (rzWr S0) tst (S0 480 9) (S0 480 21) d
noncomputable def rkXo (S0 S : Nat → Int → Int) (tst : Int) : Prop := S 480 14 = 0 → ∃ c : rkC, rkMd S (S0 480 18) c ∧ rkW c ∧ rkFm S0 S (S0 480 18) ∧ rkEx (rzCut (S0 485)) (S0 480 8) (rzWr S0) tst (S0 480 9) (S0 480 21) (rkRed 1 c)
noncomputable def rkXi (S0 S : Nat → Int → Int) (tst t : Int) : Prop := S 480 14 = 0 → (t = 4 ∧ rkXo S0 S tst) ∨ (t ≠ 4 ∧ rkXs S0 S tst t)
theorem rzWr_pos {S : Nat → Int → Int} : ∀ w : List Int, w ∈ rzWr S → 0 < w.length := fun w hw => by
  have h := rzWr_ok hw
  unfold rzOkW at h
  rw [Bool.and_eq_true, Bool.and_eq_true, Nat.blt_eq] at h
  exact h.1.1
theorem rzWr_len {S : Nat → Int → Int} : (rzWr S).length ≤ 8 := by
  unfold rzWr
  by_cases h : S 480 15 = 1
  · rw [if_pos h]
    decide
  · rw [if_neg h]
    decide
section RKXI
variable {S0 S S_p : Nat → Int → Int} {tst t s : Int} {rest : List Int} {pr : Bool} {c : rkC}
theorem rkXi_tn (k : rzKr S0 S) (h : rzTn S S_p tst (s :: rest) pr (some t)) (q : rkTq S S_p (s :: rest) pr) (h1 : rkMd S (S0 480 18) c) (h2 : rkW c) (h3 : rkFm S0 S (S0 480 18)) (h4 : ∀ d : rkC, rkRes (rzCut (S0 485)) (S0 480 8) (rzWr S0) (S 480 9) (s :: rest) pr (S 480 21) c d → rkEx (rzCut (S0 485)) (S0 480 8) (rzWr S0) tst (S0 480 9) (S0 480 21) d) : rkXi S0 S_p tst t := fun z => by
  obtain ⟨k2, d, t2, s_p, rest_p, e, r, hs, hc⟩ := h.1 z
  have e := Option.some.inj e
  subst e
  have st := rzStep_s rzWr_pos hs
  have bN := (rzN_b (T := rzCut (S 485)) (n := S 480 8) (f := S 480 9)).2.2 st.1
  obtain ⟨g1, g2⟩ := q z (by omega) _ c h1 h2
  have w := (rkSt_w (T := rzCut (S 485)) (n := S 480 8) (f := S 480 9) (s := s) (rest := rest) (pr := pr) (rzWr_len (S := S)) h2).1
  refine Or.inr ⟨by unfold rzTc at hc; omega, k.tr k2, d, s_p, rest_p, _, r, Or.inl hc, g1, w, h3.tr g2, fun d hd => h4 d ?_⟩
  rw [k.1, k.2.1, k.w] at hs hd
  exact rkRes_step hs hd
theorem rkXi_to (k : rzKr S0 S) (dq : rzDq S) (r : rzSr S tst (s :: rest)) (h : rzTo S S_p tst s rest (some t)) (q : rkTq S S_p (s :: rest) true) (h1 : rkMd S (S0 480 18) c) (h2 : rkW c) (h3 : rkFm S0 S (S0 480 18)) (h4 : ∀ d : rkC, rkRes (rzCut (S0 485)) (S0 480 8) (rzWr S0) (S 480 9) (s :: rest) true (S 480 21) c d → rkEx (rzCut (S0 485)) (S0 480 8) (rzWr S0) tst (S0 480 9) (S0 480 21) d) : rkXi S0 S_p tst t := by
  rcases h with h | ⟨e, e2, e3, ns⟩ | ⟨e, e2, hs⟩
  · exact rkXi_tn k h q h1 h2 h3 h4
  · subst e
    have e2 := Option.some.inj e2
    subst e2
    exact fun _ => Or.inr ⟨by omega, k, dq, s, rest, c, r, Or.inr ⟨rfl, e3, ns⟩, h1, h2, h3, h4⟩
  · subst e
    have e2 := Option.some.inj e2
    subst e2
    rw [k.1, k.2.1, k.w] at hs
    exact fun _ => Or.inl ⟨rfl, fun _ => ⟨c, h1, h2, h3, h4 _ (rkRes_done hs)⟩⟩
theorem rkXi_0 (hD : rzDq S0) (k : rzKr S0 S) (ts : rzTs S0 S) (e21 : S 480 21 = S0 480 21) (e24 : S 480 24 = 0) (e25 : S 480 25 = 0) (e18 : S 480 18 = S0 480 18) (b18 : 0 ≤ S0 480 18) (hf : ∀ i : Int, S 487 i = S0 487 i ∧ S 488 i = S0 488 i) (ht : (tst = 0 ∧ t = 1) ∨ (tst = 1 ∧ t = 0)) : rkXi S0 S tst t := fun _ => by
  refine Or.inr ⟨by omega, k, rzDq_c hD k ts, tst, [], rkC0, ⟨?_, by rw [e25]; rfl, by omega⟩, Or.inl ?_, ⟨b18, Int.le_refl 0, e24, by show _ = S0 480 18 + (0 : Int); omega, fun j a b => ?_, fun j a b => ?_⟩, rkW_0, fun i _ _ => hf i, fun d hd => ?_⟩
  · rw [e24]
    exact ⟨fun j a b => by omega, by omega, Iff.rfl, fun _ j a b => by omega, fun _ => rzCm_0 (Int.le_refl 0), fun g => by omega⟩
  · unfold rzTc
    omega
  · have b : j < 0 := b
    omega
  · have b : j < 0 := b
    omega
  · rw [ts.1, e21, decide_eq_false (by omega)] at hd
    exact hd
end RKXI
noncomputable def rkMo (S : Nat → Int → Int) (b : Int) (d : rkC) : Prop := 0 ≤ b ∧ 0 ≤ rkM d ∧ S 480 18 = b + rkM d ∧ ∀ i : Int, 0 ≤ i → i < rkM d → S 487 (b + i) = rkFo d i ∧ S 488 (b + i) = rkAi b (rkFo d i) (rkFa d i)
theorem rkMo_of {S : Nat → Int → Int} {b : Int} {d : rkC} (h : rkMd S b d) : rkMo S b d := ⟨h.1, h.2.1, h.2.2.2.1, h.2.2.2.2.2⟩
noncomputable def rkEm (S0 S : Nat → Int → Int) (tst : Int) : Prop := S 480 14 = 0 → rkFm S0 S (S0 480 18) ∧ ∃ d : rkC, rkEx (rzCut (S0 485)) (S0 480 8) (rzWr S0) tst (S0 480 9) (S0 480 21) d ∧ rkW d ∧ rkMo S (S0 480 18) d
end
section
noncomputable def rkSs (S0 S : Nat → Int → Int) (sa : Int) : Prop := S 427 4 = S0 427 4 ∧ ∀ p : Nat, p = 434 ∨ p = 435 ∨ p = 436 → ∀ i : Int, 0 ≤ i → i < 12 → S p i = (if (p : Int) = sa ∧ i = S0 427 4 - 1 then S0 427 0 else S0 p i)
theorem rkSs_ne {S0 S S_p : Nat → Int → Int} {sa : Int} (h : rkSs S0 S sa) (e4 : S_p 427 4 = S 427 4) (e : ∀ p : Nat, p = 434 ∨ p = 435 ∨ p = 436 → ∀ i : Int, 0 ≤ i → i < 12 → S_p p i = S p i) : rkSs S0 S_p sa := ⟨e4.trans h.1, fun p hp i a b => (e p hp i a b).trans (h.2 p hp i a b)⟩
theorem rkSs_sm {ms : List (Nat × Nat)} {S0 S S_p : Nat → Int → Int} {sa : Int} (h : rkSs S0 S sa) (hs : bx_same rxL (bx_mdl ms) S S_p) (hk : [(6, 4), (1027, 0)].all (fun q => !(bx_mdl ms q.1 q.2)) = true) : rkSs S0 S_p sa := by
  have hq : ∀ a b : Nat, (a, b) ∈ [(6, 4), (1027, 0)] → bx_mdl ms a b = false := fun a b hm => by
    have := List.all_eq_true.mp hk (a, b) hm
    rw [Bool.not_eq_true'] at this
    exact this
  refine rkSs_ne h (hs 427 4 (by decide) (by decide) (hq 6 4 (by decide))) fun p hp i a b => ?_
  rcases hp with rfl | rfl | rfl
  · exact rz_fd hs (p := 434) (n := 12) (c := 1027) (k := 0) (hq 1027 0 (by decide)) (by decide) (by decide +kernel) i a b
  · exact rz_fd hs (p := 435) (n := 12) (c := 1027) (k := 0) (hq 1027 0 (by decide)) (by decide) (by decide +kernel) i a b
  · exact rz_fd hs (p := 436) (n := 12) (c := 1027) (k := 0) (hq 1027 0 (by decide)) (by decide) (by decide +kernel) i a b
noncomputable def rkS1 (S0 S : Nat → Int → Int) (sa : Int) : Prop := (0 < S0 427 4 → S = bx_up S0 sa.toNat (S0 427 4 - 1) (S0 427 0)) ∧ (S0 427 4 ≤ 0 → S = S0)
theorem rkSs_0 {S0 S : Nat → Int → Int} {sa : Int} (hsa : sa = 434 ∨ sa = 435 ∨ sa = 436) (h : 0 < S0 427 4) (e : rkS1 S0 S sa) : rkSs S0 S sa ∧ S 427 0 = S0 427 0 ∧ ∀ i : Int, S 428 i = S0 428 i ∧ S 429 i = S0 429 i := by
  have e := e.1 h
  subst e
  refine ⟨⟨bx_up_ne (by omega), fun p hp i a b => ?_⟩, bx_up_ne (by omega), fun i => ⟨bx_up_ne (by omega), bx_up_ne (by omega)⟩⟩
  by_cases g : (p : Int) = sa ∧ i = S0 427 4 - 1
  · rw [if_pos g, g.2, show p = sa.toNat by omega]
    exact bx_up_at
  · rw [if_neg g]
    exact bx_up_ne (by omega)
noncomputable def rkRe (S0 S : Nat → Int → Int) (sa sg : Int) (pr : Bool) : Prop := (sa = 434 ∨ sa = 435 ∨ sa = 436) → 0 < S0 427 4 → S0 427 0 + 1 ≤ S0 412 2 → rkSs S0 S sa ∧ rkFr S0 S (S0 427 0) ∧ ∃ c : rkC, rkD S (S0 427 0) c ∧ rkW c ∧ S0 427 0 + (c.1 : Int) + rkM c + 1 ≤ S 412 2 ∧ ∀ d : rkC, rkRes (rzCut (S0 411)) (S0 412 1) (rzWs S0) (S 412 2) (rzLv S) pr (S 412 7) c d → rkEx (rzCut (S0 411)) (S0 412 1) (rzWs S0) sg (S0 412 2) (S0 412 7) d
theorem rzN_ao {T : Int → Int} {n f : Int} {w : List Int} (h : rzIs T n w f = true) (hw : 0 < w.length) : f + (w.length : Int) ≤ rzN T n f := by
  have e := rzWd_len h
  have q := (rzN_b (T := T) (n := n) (f := f)).2.2 (rzIs_lt hw h)
  have b : rzT T n f ≤ rzN T n f := rzF_b.1
  omega
theorem rkRe_step {S0 S S_p : Nat → Int → Int} {sa sg : Int} {pr pr_p : Bool} (h : rkRe S0 S sa sg pr) (k : rzKp S0 S) (b0 : 0 ≤ S 412 8) (hn : S 412 1 ≤ 400) (hs : rzStep (rzCut (S 411)) (S 412 1) (rzWs S) (S 412 2) (rzLv S) pr (S 412 7) = (0, S_p 412 2, rzLv S_p, pr_p, S_p 412 7)) (tk : rkTk S S_p pr) (fs : ∀ {S0 : Nat → Int → Int} {sa : Int}, rkSs S0 S sa → rkSs S0 S_p sa) : rkRe S0 S_p sa sg pr_p := fun h1 h2 h3 => by
  obtain ⟨g1, g2, c, c1, c2, c3, c4⟩ := h h1 h2 h3
  have q := rzStep_s rzWs_pos hs
  have bN := (rzN_b (T := rzCut (S 411)) (n := S 412 1) (f := S 412 2)).2.2 q.1
  obtain ⟨t1, t2⟩ := tk _ c c1 c2 (by omega)
  have ew := rzLv_eq b0
  have w := rkSt_w (T := rzCut (S 411)) (n := S 412 1) (f := S 412 2) (s := S 424 (S 412 8)) (rest := rzLq S) (pr := pr) (rzWs_len (S := S)) c2
  rw [← ew] at w
  refine ⟨fs g1, g2.tr t2, rkSt (rzCut (S 411)) (S 412 1) (rzWs S) (S 412 2) (rzLv S) pr c, t1, w.1, ?_, fun d hd => c4 d ?_⟩
  · rcases w.2 with v | ⟨v, u⟩
    · omega
    · have b2 : S 412 2 + 2 ≤ rzN (rzCut (S 411)) (S 412 1) (S 412 2) := by
        rcases v with v | v
        · have := rzN_ao v (by decide)
          have e : ((rzW_and.length : Nat) : Int) = 3 := rfl
          omega
        · have := rzN_ao v (by decide)
          have e : ((rzW_or.length : Nat) : Int) = 2 := rfl
          omega
      omega
  · rw [k.1, k.2.1, k.ws] at hs hd
    exact rkRes_step hs hd
noncomputable def rkEo (S0 S : Nat → Int → Int) (sa sg : Int) : Prop := (sa = 434 ∨ sa = 435 ∨ sa = 436) → 0 < S0 427 4 → S0 427 0 + 1 ≤ S0 412 2 → rkSs S0 S sa ∧ rkFr S0 S (S0 427 0) ∧ S 427 0 ≤ S 412 2 ∧ ∃ d : rkC, rkEx (rzCut (S0 411)) (S0 412 1) (rzWs S0) sg (S0 412 2) (S0 412 7) d ∧ rkW d ∧ rkDo S (S0 427 0) d
theorem rkRe_done {S0 S S_p : Nat → Int → Int} {sa sg f_p lf_p : Int} {lv_p : List Int} {pr_p : Bool} (h : rkRe S0 S sa sg true) (k : rzKp S0 S) (hn : S 412 1 ≤ 400) (h2n : S 412 2 ≤ S 412 1) (hs : rzStep (rzCut (S 411)) (S 412 1) (rzWs S) (S 412 2) (rzLv S) true (S 412 7) = (1, f_p, lv_p, pr_p, lf_p)) (e2 : S_p 412 2 = S 412 2) (ce : ∀ (b : Int) (c : rkC), rkD S b c → rkW c → b + (c.1 : Int) + rkM c ≤ 399 → rkDo S_p b (rkRed 1 c) ∧ rkFr S S_p b) (fs : ∀ {S0 : Nat → Int → Int} {sa : Int}, rkSs S0 S sa → rkSs S0 S_p sa) : rkEo S0 S_p sa sg := fun h1 h2 h3 => by
  obtain ⟨g1, g2, c, c1, c2, c3, c4⟩ := h h1 h2 h3
  rw [k.1, k.2.1, k.ws] at hs
  obtain ⟨t1, t2⟩ := ce _ c c1 c2 (by omega)
  have rw_ := rkRed_w (l := 1) (by omega) c2
  have z := t1.2.1
  have m0 := t1.1
  exact ⟨fs g1, g2.tr t2, by omega, rkRed 1 c, c4 _ (rkRes_done hs), rw_.1, t1⟩
end
