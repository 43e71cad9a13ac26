/-- one of both; omega takes it as it is (so many choices would be tried one behind another) -/
def lzOr (a b : Prop) : Prop := a ∨ b
theorem lzOr.inl {a b : Prop} (h : a) : lzOr a b := Or.inl h
theorem lzOr.inr {a b : Prop} (h : b) : lzOr a b := Or.inr h
theorem lzOr.imp {a b c d : Prop} (h : lzOr a b) (f : a → c) (g : b → d) : lzOr c d := Or.imp f g h
theorem lzOr.resolve_left {a b : Prop} (h : lzOr a b) (n : ¬ a) : b := Or.resolve_left h n
theorem lz_nk {k : Int} {P : Prop} (h : k < 0 ∨ 1 < k) (a : 0 ≤ k) (b : k ≤ 1) : P := by
  exfalso
  omega
theorem lz_nk0 {k : Int} (h : k < 0 ∨ 1 < k) : k ≠ 0 ∧ k ≠ 1 := by omega
/-! WHAT IS KEPT ALIKE of both -/
def lzK (S : Nat → Int → Int) : Prop := S 19 2 = S 482 9 ∧ (lzOr (S 410 0 = 0) (S 156 2 = S 483 9)) ∧ (lzOr (S 410 1 = 0) (S 292 2 = S 483 6189)) ∧ S 410 0 = S 484 0 ∧ S 410 1 = S 484 1
def lzKd : List (Nat × Nat) := [(1015, 0), (1031, 0), (1063, 11), (1064, 0), (1064, 1), (1065, 0)]
def lz_av (ms : List (Nat × Nat)) : Bool := lzKd.all (fun q => !(bx_mdl ms q.1 q.2))
theorem lzK_keep {ms : List (Nat × Nat)} (h : lz_av ms = true) {S S_p : Nat → Int → Int} (hk : lzK S) (hs : bx_same rxL (bx_mdl ms) S S_p) : lzK S_p := by
  have hv : ∀ a b : Nat, (a, b) ∈ lzKd → bx_mdl ms a b = false := fun a b hb => by
    have := List.all_eq_true.mp h (a, b) hb
    rw [Bool.not_eq_true'] at this
    exact this
  obtain ⟨k0_0, k1_0, k2_0, kp0, kp1⟩ := hk
  exact ⟨((hs 19 2 (by decide) (by decide) (hv 1015 0 (by decide)))).trans (k0_0.trans ((hs 482 9 (by decide) (by decide) (hv 1063 11 (by decide)))).symm), (k1_0.imp (fun z => ((hs 410 0 (by decide) (by decide) (hv 1031 0 (by decide)))).trans z) (fun z => ((hs 156 2 (by decide) (by decide) (hv 1015 0 (by decide)))).trans (z.trans ((rx_same64 (hv 1064 0 (by decide)) (hv 1064 1 (by decide)) hs (i := 9) (by decide) (by decide))).symm))), (k2_0.imp (fun z => ((hs 410 1 (by decide) (by decide) (hv 1031 0 (by decide)))).trans z) (fun z => ((hs 292 2 (by decide) (by decide) (hv 1015 0 (by decide)))).trans (z.trans ((rx_same64 (hv 1064 0 (by decide)) (hv 1064 1 (by decide)) hs (i := 6189) (by decide) (by decide))).symm))), ((hs 410 0 (by decide) (by decide) (hv 1031 0 (by decide)))).trans (kp0.trans ((hs 484 0 (by decide) (by decide) (hv 1065 0 (by decide)))).symm), ((hs 410 1 (by decide) (by decide) (hv 1031 0 (by decide)))).trans (kp1.trans ((hs 484 1 (by decide) (by decide) (hv 1065 0 (by decide)))).symm)⟩
theorem lzKst : lzK rzS := ⟨by decide +kernel, lzOr.inl (by decide +kernel), lzOr.inl (by decide +kernel), by decide +kernel, by decide +kernel⟩
theorem lz_1eq {q k k' : Int} (h : [q, k] = [q, k']) : k = k' := Option.some.inj (congrArg (fun l => l[1]?) h)
theorem lz_Mmono {l : Launch} {s : State} {Dg : va_G} {PX : State → Prop} {ad : Nat → Nat} {M : rx_Mt} {d q : Nat} {As : List Value} {K : lz_KT} {PR PR' : Value → Prop} {K' : Value → lz_KT} (h : lz_M l s Dg PX ad M d q As K PR K') (hp : ∀ v, PR v → PR' v) : lz_M l s Dg PX ad M d q As K PR' K' := fun S h1 h2 h3 => by
  obtain ⟨Qc, a1, a2⟩ := h S h1 h2 h3
  refine ⟨Qc, a1, fun x st oc t hq => ?_⟩
  obtain ⟨⟨S_p, v, b1, b2, b3⟩, b4⟩ := a2 x st oc t hq
  exact ⟨⟨S_p, v, b1, hp v b2, b3⟩, b4⟩
section LZS
variable {l : Launch} {s : State} {xs : Nat → Int32} {Dg : va_G} {PX : State → Prop} {ad : Nat → Nat} {a : Nat}
def lzK44 (k : Int) (S : Nat → Int → Int) : Prop := (k = 0 ∧ S 19 2 = S 482 9 ∧ S 156 2 = S 482 9 ∧ (lzOr (S 410 1 = 0) (S 292 2 = S 483 6189)) ∧ S 410 0 = 1 ∧ S 410 1 = S 484 1) ∨ (k = 1 ∧ S 19 2 = S 482 9 ∧ (lzOr (S 410 0 = 0) (S 156 2 = S 483 9)) ∧ S 292 2 = S 482 9 ∧ S 410 0 = S 484 0 ∧ S 410 1 = 1) ∨ ((k < 0 ∨ 1 < k) ∧ lzK S)
set_option maxHeartbeats 1000000 in
theorem lz_m44a (h : bx_ConP rxG rxNW rxAO PX Dg rxL rxX vwCl (lz_A s) ad l rxM208 rxC208 (fun _ _ => True) rzPS208) : lz_M l s Dg PX ad rxM208 rxC208.2.2.2.1 0 (lz_xs xs 1 a) lzK (fun v => v.category = 1) (fun _ => lzK44 (xs a).toInt) := by
  refine lz_conPM (q := 0) (tc := 0) h ⟨_, rfl⟩ ⟨_, rfl⟩ rfl (fun _ _ _ => trivial) fun S0 S y hk hI0 hI hs hp => ⟨rfl, ?_⟩
  obtain ⟨k, e1, hp⟩ := hp
  have e : (xs a).toInt = k := lz_1eq e1
  rw [e]
  have hK := hk
  obtain ⟨k0_0, k1_0, k2_0, kp0, kp1⟩ := hk
  rcases hp with ⟨rfl, hp⟩ | ⟨rfl, hp⟩ | ⟨hk1, hp⟩
  · obtain ⟨S1, ⟨hcf, h410⟩, rfl, -⟩ := hp
    obtain ⟨-, h0, h1, h2, h3, h4, h5, h6, h7, h8, h9, h10, h11, h12, h13, h14, h15, h16, h17, h18, h19, hf⟩ := hcf
    exact Or.inl ⟨rfl, ((bx_up_ne (by omega)).trans ((bx_up_ne (by omega)).trans (hf 19 2 (by decide) (by decide)))).trans (k0_0.trans ((hs 482 9 (by decide) (by decide) (by decide +kernel))).symm), ((bx_up_ne (by omega)).trans ((bx_up_ne (by omega)).trans ((h17 2 (by decide))))).trans (k0_0.trans (hs 482 9 (by decide) (by decide) (by decide +kernel)).symm), (k2_0.imp (fun z => ((bx_up_ne (by omega)).trans ((bx_up_ne (by omega)).trans (h410 1 (by decide)))).trans z) (fun z => ((bx_up_ne (by omega)).trans ((bx_up_ne (by omega)).trans (hf 292 2 (by decide) (by decide)))).trans (z.trans ((rx_same64 (by decide +kernel) (by decide +kernel) hs (i := 6189) (by decide) (by decide))).symm))), (bx_up_ne (by omega)).trans bx_up_at, ((bx_up_ne (by omega)).trans ((bx_up_ne (by omega)).trans (h410 1 (by decide)))).trans (kp1.trans ((hs 484 1 (by decide) (by decide) (by decide +kernel))).symm)⟩
  · obtain ⟨S1, ⟨hcf, h410⟩, rfl, -⟩ := hp
    obtain ⟨-, h0, h1, h2, h3, h4, h5, h6, h7, h8, h9, h10, h11, h12, h13, h14, h15, h16, h17, h18, h19, hf⟩ := hcf
    exact Or.inr (Or.inl ⟨rfl, ((bx_up_ne (by omega)).trans ((bx_up_ne (by omega)).trans (hf 19 2 (by decide) (by decide)))).trans (k0_0.trans ((hs 482 9 (by decide) (by decide) (by decide +kernel))).symm), (k1_0.imp (fun z => ((bx_up_ne (by omega)).trans ((bx_up_ne (by omega)).trans (h410 0 (by decide)))).trans z) (fun z => ((bx_up_ne (by omega)).trans ((bx_up_ne (by omega)).trans (hf 156 2 (by decide) (by decide)))).trans (z.trans ((rx_same64 (by decide +kernel) (by decide +kernel) hs (i := 9) (by decide) (by decide))).symm))), ((bx_up_ne (by omega)).trans ((bx_up_ne (by omega)).trans ((h17 2 (by decide))))).trans (k0_0.trans (hs 482 9 (by decide) (by decide) (by decide +kernel)).symm), ((bx_up_ne (by omega)).trans ((bx_up_ne (by omega)).trans (h410 0 (by decide)))).trans (kp0.trans ((hs 484 0 (by decide) (by decide) (by decide +kernel))).symm), (bx_up_ne (by omega)).trans bx_up_at⟩)
  · exact Or.inr (Or.inr ⟨hk1, lzK_keep (by decide +kernel) hK hp.2⟩)
set_option maxHeartbeats 1000000 in
theorem lz_m44b (h : bx_ConP rxG rxNW rxAO PX Dg rxL rxX vwCl (lz_A s) ad l rxM209 rxC209 (fun _ _ => True) rxPS209) : lz_M l s Dg PX ad rxM209 rxC209.2.2.2.1 480 (lz_xs xs 1 a) (lzK44 (xs a).toInt) (fun v => v.category = 1) (fun _ => lzK) := by
  refine lz_conPM (q := 480) (tc := 0) h ⟨_, rfl⟩ ⟨_, rfl⟩ rfl (fun _ _ _ => trivial) fun S0 S y hk hI0 hI hs hp => ⟨rfl, ?_⟩
  obtain ⟨k, e1, hp, c4⟩ := hp
  have e : (xs a).toInt = k := lz_1eq e1
  rcases hk with ⟨hk0, k0_0, k1_0, k2_0, kp0, kp1⟩ | ⟨hk0, k0_0, k1_0, k2_0, kp0, kp1⟩ | ⟨hk0, k0_0, k1_0, k2_0, kp0, kp1⟩
  · have ek : k = 0 := e.symm.trans hk0
    subst ek
    rcases hp with ⟨k0, k1, -, c1, c2⟩ | ⟨k0, -, -⟩
    · exact ⟨((hs 19 2 (by decide) (by decide) (by decide +kernel))).trans (k0_0.trans ((hs 482 9 (by decide) (by decide) (by decide +kernel))).symm), lzOr.inr (((hs 156 2 (by decide) (by decide) (by decide +kernel))).trans (k1_0.trans (c1 9 (by decide) (by decide)).symm)), (k2_0.imp (fun z => ((hs 410 1 (by decide) (by decide) (by decide +kernel))).trans z) (fun z => ((hs 292 2 (by decide) (by decide) (by decide +kernel))).trans (z.trans (c2 6189 (by omega)).symm))), ((hs 410 0 (by decide) (by decide) (by decide +kernel))).trans ((kp0).trans ((c4 0 (by decide) (by decide)).trans (if_pos rfl)).symm), ((hs 410 1 (by decide) (by decide) (by decide +kernel))).trans ((kp1).trans ((c4 1 (by decide) (by decide)).trans (if_neg (by decide))).symm)⟩
    · exact lz_nk k0 (by decide) (by decide)
  · have ek : k = 1 := e.symm.trans hk0
    subst ek
    rcases hp with ⟨k0, k1, -, c1, c2⟩ | ⟨k0, -, -⟩
    · exact ⟨((hs 19 2 (by decide) (by decide) (by decide +kernel))).trans (k0_0.trans ((hs 482 9 (by decide) (by decide) (by decide +kernel))).symm), (k1_0.imp (fun z => ((hs 410 0 (by decide) (by decide) (by decide +kernel))).trans z) (fun z => ((hs 156 2 (by decide) (by decide) (by decide +kernel))).trans (z.trans (c2 9 (by omega)).symm))), lzOr.inr (((hs 292 2 (by decide) (by decide) (by decide +kernel))).trans (k2_0.trans (c1 9 (by decide) (by decide)).symm)), ((hs 410 0 (by decide) (by decide) (by decide +kernel))).trans ((kp0).trans ((c4 0 (by decide) (by decide)).trans (if_neg (by decide))).symm), ((hs 410 1 (by decide) (by decide) (by decide +kernel))).trans ((kp1).trans ((c4 1 (by decide) (by decide)).trans (if_pos rfl)).symm)⟩
    · exact lz_nk k0 (by decide) (by decide)
  · rcases hp with ⟨k0, k1, -⟩ | ⟨-, -, c3⟩
    · exact lz_nk (k := k) (by rw [← e]; exact hk0) k0 k1
    · exact ⟨((hs 19 2 (by decide) (by decide) (by decide +kernel))).trans (k0_0.trans ((hs 482 9 (by decide) (by decide) (by decide +kernel))).symm), (k1_0.imp (fun z => ((hs 410 0 (by decide) (by decide) (by decide +kernel))).trans z) (fun z => ((hs 156 2 (by decide) (by decide) (by decide +kernel))).trans (z.trans (c3 9).symm))), (k2_0.imp (fun z => ((hs 410 1 (by decide) (by decide) (by decide +kernel))).trans z) (fun z => ((hs 292 2 (by decide) (by decide) (by decide +kernel))).trans (z.trans (c3 6189).symm))), ((hs 410 0 (by decide) (by decide) (by decide +kernel))).trans (kp0.trans ((c4 0 (by decide) (by decide)).trans (if_neg (fun z => (lz_nk0 (k := k) (by rw [← e]; exact hk0)).1 z.symm))).symm), ((hs 410 1 (by decide) (by decide) (by decide +kernel))).trans (kp1.trans ((c4 1 (by decide) (by decide)).trans (if_neg (fun z => (lz_nk0 (k := k) (by rw [← e]; exact hk0)).2 z.symm))).symm)⟩
/-- behind the developers' back -/
def lzK45 (k : Int) (v : Value) (S : Nat → Int → Int) : Prop := ((k < 0 ∨ 1 < k) ∧ v = .int (Int32.ofInt (-1)) ∧ lzK S) ∨ (k = 0 ∧ S 484 0 = 0 ∧ v = .int (Int32.ofInt (-2)) ∧ lzK S) ∨ (k = 1 ∧ S 484 1 = 0 ∧ v = .int (Int32.ofInt (-2)) ∧ lzK S) ∨ (k = 0 ∧ S 484 0 ≠ 0 ∧ v = .int (Int32.ofInt 0) ∧ S 19 2 = S 483 9 ∧ (lzOr (S 410 0 = 0) (S 156 2 = S 483 9)) ∧ (lzOr (S 410 1 = 0) (S 292 2 = S 483 6189)) ∧ S 410 0 = S 484 0 ∧ S 410 1 = S 484 1) ∨ (k = 1 ∧ S 484 1 ≠ 0 ∧ v = .int (Int32.ofInt 0) ∧ S 19 2 = S 483 6189 ∧ (lzOr (S 410 0 = 0) (S 156 2 = S 483 9)) ∧ (lzOr (S 410 1 = 0) (S 292 2 = S 483 6189)) ∧ S 410 0 = S 484 0 ∧ S 410 1 = S 484 1)
set_option maxHeartbeats 1000000 in
theorem lz_m45a (h : bx_ConP rxG rxNW rxAO PX Dg rxL rxX vwCl (lz_A s) ad l rxM210 rxC210 (fun _ _ => True) rzPS210) : lz_M l s Dg PX ad rxM210 rxC210.2.2.2.1 0 (lz_xs xs 1 a) lzK (fun v => ∃ x : Int32, v = .int x) (lzK45 (xs a).toInt) := by
  refine lz_conPM (q := 0) (tc := 0) h ⟨_, rfl⟩ ⟨_, rfl⟩ rfl (fun _ _ _ => trivial) fun S0 S y hk hI0 hI hs hp => ⟨⟨_, rfl⟩, ?_⟩
  obtain ⟨k, e1, hp⟩ := hp
  have e : (xs a).toInt = k := lz_1eq e1
  rw [e]
  have hK := hk
  obtain ⟨k0_0, k1_0, k2_0, kp0, kp1⟩ := hk
  rcases hp with ⟨rfl, hp⟩ | ⟨rfl, hp⟩ | ⟨hk1, hp⟩
  · rcases hp with ⟨z1, z2, z3⟩ | ⟨z1, z2, S1, hcf, rfl⟩
    · refine Or.inr ((Or.inl ⟨rfl, ((hs 484 0 (by decide) (by decide) (by decide +kernel))).trans (kp0.symm.trans z1), ?_, lzK_keep (by decide +kernel) hK z3⟩))
      exact congrArg (fun z => Value.int (Int32.ofInt z)) (Option.some.inj z2)
    · obtain ⟨-, h0, h1, h2, h3, h4, h5, h6, h7, h8, h9, h10, h11, h12, h13, h14, h15, h16, h17, h18, h19, hf⟩ := hcf
      refine Or.inr (Or.inr (Or.inr (Or.inl ⟨rfl, fun q => z1 (kp0.trans (((hs 484 0 (by decide) (by decide) (by decide +kernel))).symm.trans q)), ?_, ((bx_up_ne (by omega)).trans ((h17 2 (by decide)))).trans ((k1_0.resolve_left z1).trans (rx_same64 (by decide +kernel) (by decide +kernel) hs (i := 9) (by decide) (by decide)).symm), (k1_0.imp (fun z => ((hs 410 0 (by decide) (by decide) (by decide +kernel))).trans z) (fun z => ((bx_up_ne (by omega)).trans (hf 156 2 (by decide) (by decide))).trans (z.trans ((rx_same64 (by decide +kernel) (by decide +kernel) hs (i := 9) (by decide) (by decide))).symm))), (k2_0.imp (fun z => ((hs 410 1 (by decide) (by decide) (by decide +kernel))).trans z) (fun z => ((bx_up_ne (by omega)).trans (hf 292 2 (by decide) (by decide))).trans (z.trans ((rx_same64 (by decide +kernel) (by decide +kernel) hs (i := 6189) (by decide) (by decide))).symm))), ((hs 410 0 (by decide) (by decide) (by decide +kernel))).trans (kp0.trans ((hs 484 0 (by decide) (by decide) (by decide +kernel))).symm), ((hs 410 1 (by decide) (by decide) (by decide +kernel))).trans (kp1.trans ((hs 484 1 (by decide) (by decide) (by decide +kernel))).symm)⟩)))
      exact congrArg (fun z => Value.int (Int32.ofInt z)) (Option.some.inj z2)
  · rcases hp with ⟨z1, z2, z3⟩ | ⟨z1, z2, S1, hcf, rfl⟩
    · refine Or.inr (Or.inr (Or.inl ⟨rfl, ((hs 484 1 (by decide) (by decide) (by decide +kernel))).trans (kp1.symm.trans z1), ?_, lzK_keep (by decide +kernel) hK z3⟩))
      exact congrArg (fun z => Value.int (Int32.ofInt z)) (Option.some.inj z2)
    · obtain ⟨-, h0, h1, h2, h3, h4, h5, h6, h7, h8, h9, h10, h11, h12, h13, h14, h15, h16, h17, h18, h19, hf⟩ := hcf
      refine Or.inr (Or.inr (Or.inr (Or.inr ⟨rfl, fun q => z1 (kp1.trans (((hs 484 1 (by decide) (by decide) (by decide +kernel))).symm.trans q)), ?_, ((bx_up_ne (by omega)).trans ((h17 2 (by decide)))).trans ((k2_0.resolve_left z1).trans (rx_same64 (by decide +kernel) (by decide +kernel) hs (i := 6189) (by decide) (by decide)).symm), (k1_0.imp (fun z => ((hs 410 0 (by decide) (by decide) (by decide +kernel))).trans z) (fun z => ((bx_up_ne (by omega)).trans (hf 156 2 (by decide) (by decide))).trans (z.trans ((rx_same64 (by decide +kernel) (by decide +kernel) hs (i := 9) (by decide) (by decide))).symm))), (k2_0.imp (fun z => ((hs 410 1 (by decide) (by decide) (by decide +kernel))).trans z) (fun z => ((bx_up_ne (by omega)).trans (hf 292 2 (by decide) (by decide))).trans (z.trans ((rx_same64 (by decide +kernel) (by decide +kernel) hs (i := 6189) (by decide) (by decide))).symm))), ((hs 410 0 (by decide) (by decide) (by decide +kernel))).trans (kp0.trans ((hs 484 0 (by decide) (by decide) (by decide +kernel))).symm), ((hs 410 1 (by decide) (by decide) (by decide +kernel))).trans (kp1.trans ((hs 484 1 (by decide) (by decide) (by decide +kernel))).symm)⟩)))
      exact congrArg (fun z => Value.int (Int32.ofInt z)) (Option.some.inj z2)
  · refine Or.inl ⟨hk1, ?_, lzK_keep (by decide +kernel) hK hp.2⟩
    exact congrArg (fun z => Value.int (Int32.ofInt z)) (Option.some.inj hp.1)
set_option maxHeartbeats 1000000 in
theorem lz_m45b {v : Value} (h : bx_ConP rxG rxNW rxAO PX Dg rxL rxX vwCl (lz_A s) ad l rxM211 rxC211 (fun _ _ => True) rxPS211) : lz_M l s Dg PX ad rxM211 rxC211.2.2.2.1 480 (lz_xs xs 1 a) (lzK45 (xs a).toInt v) (fun v' => v' = v) (fun _ => lzK) := by
  refine lz_conPM (q := 480) (tc := 0) h ⟨_, rfl⟩ ⟨_, rfl⟩ rfl (fun _ _ _ => trivial) fun S0 S y hk hI0 hI hs hp => ?_
  obtain ⟨k, e1, hp⟩ := hp
  have e : (xs a).toInt = k := lz_1eq e1
  have hy : ∀ z : Int, y = z → bx_fv ad 0 y = Value.int (Int32.ofInt z) := fun z q => by rw [q]; rfl
  rcases hk with ⟨hk0, hv, k0_0, k1_0, k2_0, kp0, kp1⟩ | ⟨hk0, hz, hv, k0_0, k1_0, k2_0, kp0, kp1⟩ | ⟨hk0, hz, hv, k0_0, k1_0, k2_0, kp0, kp1⟩ | ⟨hk0, hz, hv, k0_0, k1_0, k2_0, kp0, kp1⟩ | ⟨hk0, hz, hv, k0_0, k1_0, k2_0, kp0, kp1⟩
  · rcases hp with ⟨k0, k1, -⟩ | ⟨-, c2, c3⟩
    · exact lz_nk (k := k) (by rw [← e]; exact hk0) k0 k1
    · rw [if_pos (show k < 0 ∨ 1 < k by rw [← e]; exact hk0)] at c2
      exact ⟨(hy _ (Option.some.inj c2)).trans hv.symm, ⟨((hs 19 2 (by decide) (by decide) (by decide +kernel))).trans (k0_0.trans (c3 9).symm), (k1_0.imp (fun z => ((hs 410 0 (by decide) (by decide) (by decide +kernel))).trans z) (fun z => ((hs 156 2 (by decide) (by decide) (by decide +kernel))).trans (z.trans ((rx_same64 (by decide +kernel) (by decide +kernel) hs (i := 9) (by decide) (by decide))).symm))), (k2_0.imp (fun z => ((hs 410 1 (by decide) (by decide) (by decide +kernel))).trans z) (fun z => ((hs 292 2 (by decide) (by decide) (by decide +kernel))).trans (z.trans ((rx_same64 (by decide +kernel) (by decide +kernel) hs (i := 6189) (by decide) (by decide))).symm))), ((hs 410 0 (by decide) (by decide) (by decide +kernel))).trans (kp0.trans ((hs 484 0 (by decide) (by decide) (by decide +kernel))).symm), ((hs 410 1 (by decide) (by decide) (by decide +kernel))).trans (kp1.trans ((hs 484 1 (by decide) (by decide) (by decide +kernel))).symm)⟩⟩
  · have ek : k = 0 := e.symm.trans hk0
    subst ek
    rcases hp with ⟨-, -, c1, -⟩ | ⟨-, c2, c3⟩
    · omega
    · rw [if_neg (by decide)] at c2
      exact ⟨(hy _ (Option.some.inj c2)).trans hv.symm, ⟨((hs 19 2 (by decide) (by decide) (by decide +kernel))).trans (k0_0.trans (c3 9).symm), (k1_0.imp (fun z => ((hs 410 0 (by decide) (by decide) (by decide +kernel))).trans z) (fun z => ((hs 156 2 (by decide) (by decide) (by decide +kernel))).trans (z.trans ((rx_same64 (by decide +kernel) (by decide +kernel) hs (i := 9) (by decide) (by decide))).symm))), (k2_0.imp (fun z => ((hs 410 1 (by decide) (by decide) (by decide +kernel))).trans z) (fun z => ((hs 292 2 (by decide) (by decide) (by decide +kernel))).trans (z.trans ((rx_same64 (by decide +kernel) (by decide +kernel) hs (i := 6189) (by decide) (by decide))).symm))), ((hs 410 0 (by decide) (by decide) (by decide +kernel))).trans (kp0.trans ((hs 484 0 (by decide) (by decide) (by decide +kernel))).symm), ((hs 410 1 (by decide) (by decide) (by decide +kernel))).trans (kp1.trans ((hs 484 1 (by decide) (by decide) (by decide +kernel))).symm)⟩⟩
  · have ek : k = 1 := e.symm.trans hk0
    subst ek
    rcases hp with ⟨-, -, c1, -⟩ | ⟨-, c2, c3⟩
    · omega
    · rw [if_neg (by decide)] at c2
      exact ⟨(hy _ (Option.some.inj c2)).trans hv.symm, ⟨((hs 19 2 (by decide) (by decide) (by decide +kernel))).trans (k0_0.trans (c3 9).symm), (k1_0.imp (fun z => ((hs 410 0 (by decide) (by decide) (by decide +kernel))).trans z) (fun z => ((hs 156 2 (by decide) (by decide) (by decide +kernel))).trans (z.trans ((rx_same64 (by decide +kernel) (by decide +kernel) hs (i := 9) (by decide) (by decide))).symm))), (k2_0.imp (fun z => ((hs 410 1 (by decide) (by decide) (by decide +kernel))).trans z) (fun z => ((hs 292 2 (by decide) (by decide) (by decide +kernel))).trans (z.trans ((rx_same64 (by decide +kernel) (by decide +kernel) hs (i := 6189) (by decide) (by decide))).symm))), ((hs 410 0 (by decide) (by decide) (by decide +kernel))).trans (kp0.trans ((hs 484 0 (by decide) (by decide) (by decide +kernel))).symm), ((hs 410 1 (by decide) (by decide) (by decide +kernel))).trans (kp1.trans ((hs 484 1 (by decide) (by decide) (by decide +kernel))).symm)⟩⟩
  · have ek : k = 0 := e.symm.trans hk0
    subst ek
    rcases hp with ⟨-, -, -, c2, c1⟩ | ⟨c1, -, -⟩
    · exact ⟨(hy _ (Option.some.inj c2)).trans hv.symm, ⟨((hs 19 2 (by decide) (by decide) (by decide +kernel))).trans (k0_0.trans (c1 9 (by decide) (by decide)).symm), (k1_0.imp (fun z => ((hs 410 0 (by decide) (by decide) (by decide +kernel))).trans z) (fun z => ((hs 156 2 (by decide) (by decide) (by decide +kernel))).trans (z.trans ((rx_same64 (by decide +kernel) (by decide +kernel) hs (i := 9) (by decide) (by decide))).symm))), (k2_0.imp (fun z => ((hs 410 1 (by decide) (by decide) (by decide +kernel))).trans z) (fun z => ((hs 292 2 (by decide) (by decide) (by decide +kernel))).trans (z.trans ((rx_same64 (by decide +kernel) (by decide +kernel) hs (i := 6189) (by decide) (by decide))).symm))), ((hs 410 0 (by decide) (by decide) (by decide +kernel))).trans (kp0.trans ((hs 484 0 (by decide) (by decide) (by decide +kernel))).symm), ((hs 410 1 (by decide) (by decide) (by decide +kernel))).trans (kp1.trans ((hs 484 1 (by decide) (by decide) (by decide +kernel))).symm)⟩⟩
    · rcases c1 with c1 | c1 | c1 <;> omega
  · have ek : k = 1 := e.symm.trans hk0
    subst ek
    rcases hp with ⟨-, -, -, c2, c1⟩ | ⟨c1, -, -⟩
    · exact ⟨(hy _ (Option.some.inj c2)).trans hv.symm, ⟨((hs 19 2 (by decide) (by decide) (by decide +kernel))).trans (k0_0.trans (c1 9 (by decide) (by decide)).symm), (k1_0.imp (fun z => ((hs 410 0 (by decide) (by decide) (by decide +kernel))).trans z) (fun z => ((hs 156 2 (by decide) (by decide) (by decide +kernel))).trans (z.trans ((rx_same64 (by decide +kernel) (by decide +kernel) hs (i := 9) (by decide) (by decide))).symm))), (k2_0.imp (fun z => ((hs 410 1 (by decide) (by decide) (by decide +kernel))).trans z) (fun z => ((hs 292 2 (by decide) (by decide) (by decide +kernel))).trans (z.trans ((rx_same64 (by decide +kernel) (by decide +kernel) hs (i := 6189) (by decide) (by decide))).symm))), ((hs 410 0 (by decide) (by decide) (by decide +kernel))).trans (kp0.trans ((hs 484 0 (by decide) (by decide) (by decide +kernel))).symm), ((hs 410 1 (by decide) (by decide) (by decide +kernel))).trans (kp1.trans ((hs 484 1 (by decide) (by decide) (by decide +kernel))).symm)⟩⟩
    · rcases c1 with c1 | c1 | c1 <;> omega
def lzK8 (wh : Int) (va : Int) (v : Value) (S : Nat → Int → Int) : Prop := ((wh < 0 ∨ 2 < wh ∨ va < 0 ∨ (wh = 0 ∧ 300 < va) ∨ (wh = 1 ∧ 9 < va) ∨ (wh = 2 ∧ 100 < va)) ∧ v = .int (Int32.ofInt (-1)) ∧ lzK S) ∨ (wh = 0 ∧ 0 ≤ va ∧ va ≤ 300 ∧ True ∧ S 19 2 = S 482 9 ∧ (lzOr (S 410 0 = 0) (S 156 2 = S 483 9)) ∧ (lzOr (S 410 1 = 0) (S 292 2 = S 483 6189)) ∧ S 410 0 = S 484 0 ∧ S 410 1 = S 484 1) ∨ (wh = 1 ∧ 0 ≤ va ∧ va ≤ 9 ∧ True ∧ S 19 2 = S 482 9 ∧ (lzOr (S 410 0 = 0) (S 156 2 = S 483 9)) ∧ (lzOr (S 410 1 = 0) (S 292 2 = S 483 6189)) ∧ S 410 0 = S 484 0 ∧ S 410 1 = S 484 1) ∨ (wh = 2 ∧ 0 ≤ va ∧ va ≤ 100 ∧ True ∧ S 19 2 = va ∧ (lzOr (S 410 0 = 0) (S 156 2 = S 483 9)) ∧ (lzOr (S 410 1 = 0) (S 292 2 = S 483 6189)) ∧ S 410 0 = S 484 0 ∧ S 410 1 = S 484 1)
set_option maxHeartbeats 2000000 in
theorem lz_m8a (h : bx_ConP rxG rxNW rxAO PX Dg rxL rxX vwCl (lz_A s) ad l rxM229 rxC229 (fun _ _ => True) rxPS229) : lz_M l s Dg PX ad rxM229 rxC229.2.2.2.1 0 (lz_xs xs 2 a) lzK (fun v => ∃ x : Int32, v = .int x) (lzK8 (xs a).toInt (xs (a + 1)).toInt) := by
  refine lz_conPM (q := 0) (tc := 0) h ⟨_, rfl⟩ ⟨_, rfl⟩ rfl (fun _ _ _ => trivial) fun S0 S y hk hI0 hI hs hp => ⟨⟨_, rfl⟩, ?_⟩
  obtain ⟨wh, va, e1, hp⟩ := hp
  have ewh : (xs a).toInt = wh := Option.some.inj (congrArg (fun l : List Int => l[1]?) e1)
  have eva : (xs (a + 1)).toInt = va := Option.some.inj (congrArg (fun l : List Int => l[2]?) e1)
  rw [ewh]
  rw [eva]
  have hK := hk
  obtain ⟨k0_0, k1_0, k2_0, kp0, kp1⟩ := hk
  have hR0 : S 482 9 = S0 482 9 := (hs 482 9 (by decide) (by decide) (by decide +kernel))
  rcases hp with ⟨g10, g2, g3⟩ | ⟨g10, g11, g12, g2, g30, g60, g61⟩ | ⟨g10, g11, g12, g2, g30, g60, g61⟩ | ⟨g10, g11, g12, g2, g30, g60, g61⟩
  · refine Or.inl (⟨by omega, ?_, ?_⟩)
    · exact congrArg (fun z => Value.int (Int32.ofInt z)) (Option.some.inj g2)
    · exact lzK_keep (by decide +kernel) hK g3
  · refine Or.inr (Or.inl (⟨by omega, by omega, by omega, ?_, g30.trans (by first | rfl | (rw [k0_0, hR0]) | first | rfl | omega | (rw [k0_0, hR0])), (k1_0.imp (fun z => ((hs 410 0 (by decide) (by decide) (by decide +kernel))).trans z) (fun z => (g60).trans (z.trans ((rx_same64 (by decide +kernel) (by decide +kernel) hs (i := 9) (by decide) (by decide))).symm))), (k2_0.imp (fun z => ((hs 410 1 (by decide) (by decide) (by decide +kernel))).trans z) (fun z => (g61).trans (z.trans ((rx_same64 (by decide +kernel) (by decide +kernel) hs (i := 6189) (by decide) (by decide))).symm))), ((hs 410 0 (by decide) (by decide) (by decide +kernel))).trans (kp0.trans ((hs 484 0 (by decide) (by decide) (by decide +kernel))).symm), ((hs 410 1 (by decide) (by decide) (by decide +kernel))).trans (kp1.trans ((hs 484 1 (by decide) (by decide) (by decide +kernel))).symm)⟩))
    · exact trivial -- (by first | rfl | omega | (rw [k0_0, hR0]))
  · refine Or.inr (Or.inr (Or.inl (⟨by omega, by omega, by omega, ?_, g30.trans (by first | rfl | (rw [k0_0, hR0]) | first | rfl | omega | (rw [k0_0, hR0])), (k1_0.imp (fun z => ((hs 410 0 (by decide) (by decide) (by decide +kernel))).trans z) (fun z => (g60).trans (z.trans ((rx_same64 (by decide +kernel) (by decide +kernel) hs (i := 9) (by decide) (by decide))).symm))), (k2_0.imp (fun z => ((hs 410 1 (by decide) (by decide) (by decide +kernel))).trans z) (fun z => (g61).trans (z.trans ((rx_same64 (by decide +kernel) (by decide +kernel) hs (i := 6189) (by decide) (by decide))).symm))), ((hs 410 0 (by decide) (by decide) (by decide +kernel))).trans (kp0.trans ((hs 484 0 (by decide) (by decide) (by decide +kernel))).symm), ((hs 410 1 (by decide) (by decide) (by decide +kernel))).trans (kp1.trans ((hs 484 1 (by decide) (by decide) (by decide +kernel))).symm)⟩)))
    · exact trivial -- (by first | rfl | omega | (rw [k0_0, hR0]))
  · refine Or.inr (Or.inr (Or.inr (⟨by omega, by omega, by omega, ?_, g30.trans (by first | rfl | (rw [k0_0, hR0]) | first | rfl | omega | (rw [k0_0, hR0])), (k1_0.imp (fun z => ((hs 410 0 (by decide) (by decide) (by decide +kernel))).trans z) (fun z => (g60).trans (z.trans ((rx_same64 (by decide +kernel) (by decide +kernel) hs (i := 9) (by decide) (by decide))).symm))), (k2_0.imp (fun z => ((hs 410 1 (by decide) (by decide) (by decide +kernel))).trans z) (fun z => (g61).trans (z.trans ((rx_same64 (by decide +kernel) (by decide +kernel) hs (i := 6189) (by decide) (by decide))).symm))), ((hs 410 0 (by decide) (by decide) (by decide +kernel))).trans (kp0.trans ((hs 484 0 (by decide) (by decide) (by decide +kernel))).symm), ((hs 410 1 (by decide) (by decide) (by decide +kernel))).trans (kp1.trans ((hs 484 1 (by decide) (by decide) (by decide +kernel))).symm)⟩)))
    · exact trivial -- (by first | rfl | omega | (rw [k0_0, hR0]))
set_option maxHeartbeats 2000000 in
theorem lz_m8b {v : Value} (h : bx_ConP rxG rxNW rxAO PX Dg rxL rxX vwCl (lz_A s) ad l rxM230 rxC230 (fun _ _ => True) rxPS230) : lz_M l s Dg PX ad rxM230 rxC230.2.2.2.1 480 (lz_xs xs 2 a) (lzK8 (xs a).toInt (xs (a + 1)).toInt v) (fun v' => ∃ x : Int32, v' = .int x) (fun _ => lzK) := by
  refine lz_conPM (q := 480) (tc := 0) h ⟨_, rfl⟩ ⟨_, rfl⟩ rfl (fun _ _ _ => trivial) fun S0 S y hk hI0 hI hs hp => ?_
  obtain ⟨wh, va, e1, hp⟩ := hp
  have ewh : (xs a).toInt = wh := Option.some.inj (congrArg (fun l : List Int => l[1]?) e1)
  have eva : (xs (a + 1)).toInt = va := Option.some.inj (congrArg (fun l : List Int => l[2]?) e1)
  rw [ewh] at hk
  rw [eva] at hk
  have hy : ∀ z : Int, y = z → bx_fv ad 0 y = Value.int (Int32.ofInt z) := fun z q => by rw [q]; rfl
  rcases hk with ⟨q10, hv, hK⟩ | ⟨q10, q11, q12, hv, hn0, k1_0, k2_0, kp0, kp1⟩ | ⟨q10, q11, q12, hv, hn0, k1_0, k2_0, kp0, kp1⟩ | ⟨q10, q11, q12, hv, hn0, k1_0, k2_0, kp0, kp1⟩
  · rcases hp with ⟨g10, g2, g3⟩ | ⟨g10, g11, g12, g2, g30⟩ | ⟨g10, g11, g12, g2, g30⟩ | ⟨g10, g11, g12, g2, g30⟩
    · refine ⟨⟨_, rfl⟩, ?_⟩
      obtain ⟨k0_0, k1_0, k2_0, kp0, kp1⟩ := hK
      exact ⟨((hs 19 2 (by decide) (by decide) (by decide +kernel))).trans (k0_0.trans (g3 9).symm), (k1_0.imp (fun z => ((hs 410 0 (by decide) (by decide) (by decide +kernel))).trans z) (fun z => ((hs 156 2 (by decide) (by decide) (by decide +kernel))).trans (z.trans ((rx_same64 (by decide +kernel) (by decide +kernel) hs (i := 9) (by decide) (by decide))).symm))), (k2_0.imp (fun z => ((hs 410 1 (by decide) (by decide) (by decide +kernel))).trans z) (fun z => ((hs 292 2 (by decide) (by decide) (by decide +kernel))).trans (z.trans ((rx_same64 (by decide +kernel) (by decide +kernel) hs (i := 6189) (by decide) (by decide))).symm))), ((hs 410 0 (by decide) (by decide) (by decide +kernel))).trans (kp0.trans ((hs 484 0 (by decide) (by decide) (by decide +kernel))).symm), ((hs 410 1 (by decide) (by decide) (by decide +kernel))).trans (kp1.trans ((hs 484 1 (by decide) (by decide) (by decide +kernel))).symm)⟩
    · exfalso; omega
    · exfalso; omega
    · exfalso; omega
  · rcases hp with ⟨g10, g2, g3⟩ | ⟨g10, g11, g12, g2, g30⟩ | ⟨g10, g11, g12, g2, g30⟩ | ⟨g10, g11, g12, g2, g30⟩
    · exfalso; omega
    · exact ⟨⟨_, rfl⟩, ((hs 19 2 (by decide) (by decide) (by decide +kernel))).trans (hn0.trans g30.symm), (k1_0.imp (fun z => ((hs 410 0 (by decide) (by decide) (by decide +kernel))).trans z) (fun z => ((hs 156 2 (by decide) (by decide) (by decide +kernel))).trans (z.trans ((rx_same64 (by decide +kernel) (by decide +kernel) hs (i := 9) (by decide) (by decide))).symm))), (k2_0.imp (fun z => ((hs 410 1 (by decide) (by decide) (by decide +kernel))).trans z) (fun z => ((hs 292 2 (by decide) (by decide) (by decide +kernel))).trans (z.trans ((rx_same64 (by decide +kernel) (by decide +kernel) hs (i := 6189) (by decide) (by decide))).symm))), ((hs 410 0 (by decide) (by decide) (by decide +kernel))).trans (kp0.trans ((hs 484 0 (by decide) (by decide) (by decide +kernel))).symm), ((hs 410 1 (by decide) (by decide) (by decide +kernel))).trans (kp1.trans ((hs 484 1 (by decide) (by decide) (by decide +kernel))).symm)⟩
    · exfalso; omega
    · exfalso; omega
  · rcases hp with ⟨g10, g2, g3⟩ | ⟨g10, g11, g12, g2, g30⟩ | ⟨g10, g11, g12, g2, g30⟩ | ⟨g10, g11, g12, g2, g30⟩
    · exfalso; omega
    · exfalso; omega
    · exact ⟨⟨_, rfl⟩, ((hs 19 2 (by decide) (by decide) (by decide +kernel))).trans (hn0.trans g30.symm), (k1_0.imp (fun z => ((hs 410 0 (by decide) (by decide) (by decide +kernel))).trans z) (fun z => ((hs 156 2 (by decide) (by decide) (by decide +kernel))).trans (z.trans ((rx_same64 (by decide +kernel) (by decide +kernel) hs (i := 9) (by decide) (by decide))).symm))), (k2_0.imp (fun z => ((hs 410 1 (by decide) (by decide) (by decide +kernel))).trans z) (fun z => ((hs 292 2 (by decide) (by decide) (by decide +kernel))).trans (z.trans ((rx_same64 (by decide +kernel) (by decide +kernel) hs (i := 6189) (by decide) (by decide))).symm))), ((hs 410 0 (by decide) (by decide) (by decide +kernel))).trans (kp0.trans ((hs 484 0 (by decide) (by decide) (by decide +kernel))).symm), ((hs 410 1 (by decide) (by decide) (by decide +kernel))).trans (kp1.trans ((hs 484 1 (by decide) (by decide) (by decide +kernel))).symm)⟩
    · exfalso; omega
  · rcases hp with ⟨g10, g2, g3⟩ | ⟨g10, g11, g12, g2, g30⟩ | ⟨g10, g11, g12, g2, g30⟩ | ⟨g10, g11, g12, g2, g30⟩
    · exfalso; omega
    · exfalso; omega
    · exfalso; omega
    · exact ⟨⟨_, rfl⟩, ((hs 19 2 (by decide) (by decide) (by decide +kernel))).trans (hn0.trans g30.symm), (k1_0.imp (fun z => ((hs 410 0 (by decide) (by decide) (by decide +kernel))).trans z) (fun z => ((hs 156 2 (by decide) (by decide) (by decide +kernel))).trans (z.trans ((rx_same64 (by decide +kernel) (by decide +kernel) hs (i := 9) (by decide) (by decide))).symm))), (k2_0.imp (fun z => ((hs 410 1 (by decide) (by decide) (by decide +kernel))).trans z) (fun z => ((hs 292 2 (by decide) (by decide) (by decide +kernel))).trans (z.trans ((rx_same64 (by decide +kernel) (by decide +kernel) hs (i := 6189) (by decide) (by decide))).symm))), ((hs 410 0 (by decide) (by decide) (by decide +kernel))).trans (kp0.trans ((hs 484 0 (by decide) (by decide) (by decide +kernel))).symm), ((hs 410 1 (by decide) (by decide) (by decide +kernel))).trans (kp1.trans ((hs 484 1 (by decide) (by decide) (by decide +kernel))).symm)⟩
def lzK32 (n : Int) (k : Int) (v : Value) (S : Nat → Int → Int) : Prop := ((n < 0 ∨ 6 < n ∨ k < 0 ∨ 9 < k) ∧ v = .long (Int64.ofInt (-1)) ∧ lzK S) ∨ (0 ≤ n ∧ n ≤ 6 ∧ 0 ≤ k ∧ k ≤ 9 ∧ v = .long (Int64.ofInt (rzDr n k (S 482 9))) ∧ lzK S)
set_option maxHeartbeats 2000000 in
theorem lz_m32a (h : bx_ConP rxG rxNW rxAO PX Dg rxL rxX vwCl (lz_A s) ad l rxM182 rxC182 (fun _ _ => True) rxPS182) : lz_M l s Dg PX ad rxM182 rxC182.2.2.2.1 0 (lz_xs xs 2 a) lzK (fun v => ∃ x : Int64, v = .long x) (lzK32 (xs a).toInt (xs (a + 1)).toInt) := by
  refine lz_conPM (q := 0) (tc := 2) h ⟨_, rfl⟩ ⟨_, rfl⟩ rfl (fun _ _ _ => trivial) fun S0 S y hk hI0 hI hs hp => ⟨⟨_, rfl⟩, ?_⟩
  obtain ⟨n, k, e1, hp⟩ := hp
  have en : (xs a).toInt = n := Option.some.inj (congrArg (fun l : List Int => l[1]?) e1)
  have ek : (xs (a + 1)).toInt = k := Option.some.inj (congrArg (fun l : List Int => l[2]?) e1)
  rw [en]
  rw [ek]
  have hK := hk
  obtain ⟨k0_0, k1_0, k2_0, kp0, kp1⟩ := hk
  have hR0 : S 482 9 = S0 482 9 := (hs 482 9 (by decide) (by decide) (by decide +kernel))
  rcases hp with ⟨g10, g2, g3⟩ | ⟨g10, g11, g12, g13, g2, g3⟩
  · refine Or.inl (⟨by omega, ?_, ?_⟩)
    · exact congrArg (fun z => Value.long (Int64.ofInt z)) (Option.some.inj g2)
    · exact lzK_keep (by decide +kernel) hK g3
  · refine Or.inr (⟨by omega, by omega, by omega, by omega, ?_, ?_⟩)
    · exact congrArg (fun z => Value.long (Int64.ofInt z)) ((Option.some.inj g2).trans (by first | rfl | omega | (rw [k0_0, hR0])))
    · exact lzK_keep (by decide +kernel) hK g3
set_option maxHeartbeats 2000000 in
theorem lz_m32b {v : Value} (h : bx_ConP rxG rxNW rxAO PX Dg rxL rxX vwCl (lz_A s) ad l rxM183 rxC183 (fun _ _ => True) rxPS183) : lz_M l s Dg PX ad rxM183 rxC183.2.2.2.1 480 (lz_xs xs 2 a) (lzK32 (xs a).toInt (xs (a + 1)).toInt v) (fun v' => v' = v) (fun _ => lzK) := by
  refine lz_conPM (q := 480) (tc := 2) h ⟨_, rfl⟩ ⟨_, rfl⟩ rfl (fun _ _ _ => trivial) fun S0 S y hk hI0 hI hs hp => ?_
  obtain ⟨n, k, e1, hp⟩ := hp
  have en : (xs a).toInt = n := Option.some.inj (congrArg (fun l : List Int => l[1]?) e1)
  have ek : (xs (a + 1)).toInt = k := Option.some.inj (congrArg (fun l : List Int => l[2]?) e1)
  rw [en] at hk
  rw [ek] at hk
  have hy : ∀ z : Int, y = z → bx_fv ad 2 y = Value.long (Int64.ofInt z) := fun z q => by rw [q]; rfl
  rcases hk with ⟨q10, hv, hK⟩ | ⟨q10, q11, q12, q13, hv, hK⟩
  · rcases hp with ⟨g10, g2, g3⟩ | ⟨g10, g11, g12, g13, g2, g3⟩
    · refine ⟨(hy _ (Option.some.inj g2)).trans hv.symm, ?_⟩
      obtain ⟨k0_0, k1_0, k2_0, kp0, kp1⟩ := hK
      exact ⟨((hs 19 2 (by decide) (by decide) (by decide +kernel))).trans (k0_0.trans (g3 9).symm), (k1_0.imp (fun z => ((hs 410 0 (by decide) (by decide) (by decide +kernel))).trans z) (fun z => ((hs 156 2 (by decide) (by decide) (by decide +kernel))).trans (z.trans ((rx_same64 (by decide +kernel) (by decide +kernel) hs (i := 9) (by decide) (by decide))).symm))), (k2_0.imp (fun z => ((hs 410 1 (by decide) (by decide) (by decide +kernel))).trans z) (fun z => ((hs 292 2 (by decide) (by decide) (by decide +kernel))).trans (z.trans ((rx_same64 (by decide +kernel) (by decide +kernel) hs (i := 6189) (by decide) (by decide))).symm))), ((hs 410 0 (by decide) (by decide) (by decide +kernel))).trans (kp0.trans ((hs 484 0 (by decide) (by decide) (by decide +kernel))).symm), ((hs 410 1 (by decide) (by decide) (by decide +kernel))).trans (kp1.trans ((hs 484 1 (by decide) (by decide) (by decide +kernel))).symm)⟩
    · exfalso; omega
  · rcases hp with ⟨g10, g2, g3⟩ | ⟨g10, g11, g12, g13, g2, g3⟩
    · exfalso; omega
    · refine ⟨(hy _ (Option.some.inj g2)).trans hv.symm, ?_⟩
      obtain ⟨k0_0, k1_0, k2_0, kp0, kp1⟩ := hK
      exact ⟨((hs 19 2 (by decide) (by decide) (by decide +kernel))).trans (k0_0.trans (g3 9).symm), (k1_0.imp (fun z => ((hs 410 0 (by decide) (by decide) (by decide +kernel))).trans z) (fun z => ((hs 156 2 (by decide) (by decide) (by decide +kernel))).trans (z.trans ((rx_same64 (by decide +kernel) (by decide +kernel) hs (i := 9) (by decide) (by decide))).symm))), (k2_0.imp (fun z => ((hs 410 1 (by decide) (by decide) (by decide +kernel))).trans z) (fun z => ((hs 292 2 (by decide) (by decide) (by decide +kernel))).trans (z.trans ((rx_same64 (by decide +kernel) (by decide +kernel) hs (i := 6189) (by decide) (by decide))).symm))), ((hs 410 0 (by decide) (by decide) (by decide +kernel))).trans (kp0.trans ((hs 484 0 (by decide) (by decide) (by decide +kernel))).symm), ((hs 410 1 (by decide) (by decide) (by decide +kernel))).trans (kp1.trans ((hs 484 1 (by decide) (by decide) (by decide +kernel))).symm)⟩
end LZS
