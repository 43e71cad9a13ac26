/-! rows of slots -/
theorem lz_rowA {n p q : Nat} {S T : Nat → Int → Int} (h : ∀ i : Nat, i < n → S p (i : Int) = T q (i : Int)) (i : Int) (i0 : 0 ≤ i) (i1 : i < n) : S p i = T q i := by
  have := h i.toNat (by omega)
  rwa [Int.toNat_of_nonneg i0] at this
theorem lz_rowB {n p q : Nat} {lo st : Int} {S T : Nat → Int → Int} (h : ∀ i : Nat, i < n → S p (i : Int) = T q (lo + st * (i : Int))) (i : Int) (i0 : 0 ≤ i) (i1 : i < n) : S p i = T q (lo + st * i) := by
  have := h i.toNat (by omega)
  rwa [Int.toNat_of_nonneg i0] at this
theorem lz_fd {ms : List (Nat × Nat)} {S S' : Nat → Int → Int} (hs : bx_same rxL (bx_mdl ms) S S') {p n c k : Nat} (hm : bx_mdl ms c k = false) (hp : p < rxL.2.1) (h : (List.range n).all (fun i => Nat.blt i (bx_wd (rxL.1 p)) && (Nat.beq (bx_mc (rxL.1 p) i).1 c && Nat.beq (bx_mc (rxL.1 p) i).2 k)) = true) {i : Int} (i0 : 0 ≤ i) (i1 : i < n) : S' p i = S p i := by
  have hi := List.all_eq_true.mp h i.toNat (List.mem_range.mpr (by omega))
  rw [Bool.and_eq_true, Bool.and_eq_true, Nat.blt_eq] at hi
  have q := hs p i.toNat hp hi.1 (by rw [Nat.eq_of_beq_eq_true hi.2.1, Nat.eq_of_beq_eq_true hi.2.2]; exact hm)
  rwa [Int.toNat_of_nonneg i0] at q
theorem lz_fr {ms : List (Nat × Nat)} {S S' : Nat → Int → Int} (hs : bx_same rxL (bx_mdl ms) S S') {p n c k lo st : Nat} {lw sw : Int} (e1 : lw = (lo : Int)) (e2 : sw = (st : Int)) (hm : bx_mdl ms c k = false) (hp : p < rxL.2.1) (h : (List.range n).all (fun i => Nat.blt (lo + st * i) (bx_wd (rxL.1 p)) && (Nat.beq (bx_mc (rxL.1 p) (lo + st * i)).1 c && Nat.beq (bx_mc (rxL.1 p) (lo + st * i)).2 k)) = true) {i : Int} (i0 : 0 ≤ i) (i1 : i < n) : S' p (lw + sw * i) = S p (lw + sw * i) := by
  have hi := List.all_eq_true.mp h i.toNat (List.mem_range.mpr (by omega))
  rw [Bool.and_eq_true, Bool.and_eq_true, Nat.blt_eq] at hi
  have q := hs p (lo + st * i.toNat) hp hi.1 (by rw [Nat.eq_of_beq_eq_true hi.2.1, Nat.eq_of_beq_eq_true hi.2.2]; exact hm)
  have e : ((lo + st * i.toNat : Nat) : Int) = lw + sw * i := by
    rw [e1, e2, Int.natCast_add, Int.natCast_mul, Int.toNat_of_nonneg i0]
  rwa [e] at q
theorem lz_at {S : Nat → Int → Int} {p : Nat} {a b x : Int} (e : a = b) (h : S p a = x) : S p b = x := e ▸ h
theorem lz_at2 {S : Nat → Int → Int} {p : Nat} {a b x : Int} (e : a = b) (h : x = S p a) : x = S p b := e ▸ h

/-! WHAT IS KEPT ALIKE of both -/
def lzK (S : Nat → Int → Int) : Prop := S 1 0 = S 482 0 ∧ S 138 0 = S 483 0 ∧ S 274 0 = S 483 6180 ∧ S 410 0 = S 484 0 ∧ S 410 1 = S 484 1 ∧ S 0 4 = S 480 8 ∧ S 0 7 = S 480 6 ∧ (∀ i : Int, 0 ≤ i → i < 400 → S 411 i = S 485 i)
def lzKd : List (Nat × Nat) := [(10, 0), (11, 4), (11, 7), (12, 6), (12, 8), (1031, 0), (1032, 0), (1063, 2), (1064, 0), (1064, 1), (1065, 0), (1066, 0)]
def lz_av (ms : List (Nat × Nat)) : Bool := lzKd.all (fun q => !(bx_mdl ms q.1 q.2))
theorem lzK_keep {ms : List (Nat × Nat)} (h : lz_av ms = true) {S S' : Nat → Int → Int} (hk : lzK S) (hs : bx_same rxL (bx_mdl ms) S S') : lzK S' := by
  have hv : ∀ a b : Nat, (a, b) ∈ lzKd → bx_mdl ms a b = false := fun a b hb => by
    have := List.all_eq_true.mp h (a, b) hb
    rw [Bool.not_eq_true'] at this
    exact this
  obtain ⟨k0_0, k1_0, k2_0, kp0, kp1, kx0, kx1, kx2⟩ := hk
  exact ⟨((hs 1 0 (by decide) (by decide) (hv 10 0 (by decide)))).trans (k0_0.trans ((hs 482 0 (by decide) (by decide) (hv 1063 2 (by decide)))).symm), ((hs 138 0 (by decide) (by decide) (hv 10 0 (by decide)))).trans (k1_0.trans ((rx_same64 (hv 1064 0 (by decide)) (hv 1064 1 (by decide)) hs (i := 0) (by decide) (by decide))).symm), ((hs 274 0 (by decide) (by decide) (hv 10 0 (by decide)))).trans (k2_0.trans ((rx_same64 (hv 1064 0 (by decide)) (hv 1064 1 (by decide)) hs (i := 6180) (by decide) (by decide))).symm), ((hs 410 0 (by decide) (by decide) (hv 1031 0 (by decide)))).trans (kp0.trans ((hs 484 0 (by decide) (by decide) (hv 1065 0 (by decide)))).symm), ((hs 410 1 (by decide) (by decide) (hv 1031 0 (by decide)))).trans (kp1.trans ((hs 484 1 (by decide) (by decide) (hv 1065 0 (by decide)))).symm), ((hs 0 4 (by decide) (by decide) (hv 11 4 (by decide)))).trans (kx0.trans ((hs 480 8 (by decide) (by decide) (hv 12 8 (by decide)))).symm), ((hs 0 7 (by decide) (by decide) (hv 11 7 (by decide)))).trans (kx1.trans ((hs 480 6 (by decide) (by decide) (hv 12 6 (by decide)))).symm), (fun i i0 i1 => ((lz_fd hs (p := 411) (n := 400) (c := 1032) (k := 0) (hv 1032 0 (by decide)) (by decide) (by decide +kernel) i0 i1)).trans ((kx2 i i0 i1).trans ((lz_fd hs (p := 485) (n := 400) (c := 1066) (k := 0) (hv 1066 0 (by decide)) (by decide) (by decide +kernel) i0 i1)).symm))⟩
theorem lzKst : lzK rzS := ⟨by decide +kernel, by decide +kernel, by decide +kernel, by decide +kernel, by decide +kernel, by decide +kernel, by decide +kernel, lz_rowA (n := 400) (by decide +kernel)⟩
theorem lz_1eq {q k k' : Int} (h : [q, k] = [q, k']) : k = k' := Option.some.inj (congrArg (fun l => l[1]?) h)
theorem lz_Mmono {l : Launch} {s : State} {Dg : va_G} {PX : State → Prop} {ad : Nat → Nat} {M : rx_Mt} {d q : Nat} {As : List Value} {K : lz_KT} {PR PR' : Value → Prop} {K' : Value → lz_KT} (h : lz_M l s Dg PX ad M d q As K PR K') (hp : ∀ v, PR v → PR' v) : lz_M l s Dg PX ad M d q As K PR' K' := fun S h1 h2 h3 => by
  obtain ⟨Qc, a1, a2⟩ := h S h1 h2 h3
  refine ⟨Qc, a1, fun x st oc t hq => ?_⟩
  obtain ⟨⟨S', v, b1, b2, b3⟩, b4⟩ := a2 x st oc t hq
  exact ⟨⟨S', v, b1, hp v b2, b3⟩, b4⟩
section LZS
variable {l : Launch} {s : State} {xs : Nat → Int32} {Dg : va_G} {PX : State → Prop} {ad : Nat → Nat} {a : Nat}
def lzK44 (k : Int) (S : Nat → Int → Int) : Prop := (k = 0 ∧ S 1 0 = S 482 0 ∧ S 138 0 = S 482 0 ∧ S 274 0 = S 483 6180 ∧ S 410 0 = 1 ∧ S 410 1 = S 484 1 ∧ S 0 4 = S 480 8 ∧ S 0 7 = S 480 6 ∧ (∀ i : Int, 0 ≤ i → i < 400 → S 411 i = S 485 i)) ∨ (k = 1 ∧ S 1 0 = S 482 0 ∧ S 138 0 = S 483 0 ∧ S 274 0 = S 482 0 ∧ S 410 0 = S 484 0 ∧ S 410 1 = 1 ∧ S 0 4 = S 480 8 ∧ S 0 7 = S 480 6 ∧ (∀ i : Int, 0 ≤ i → i < 400 → S 411 i = S 485 i)) ∨ ((k < 0 ∨ 1 < k) ∧ lzK S)
set_option maxHeartbeats 1000000 in
theorem lz_m44a (h : bx_ConP rxG rxNW rxAO PX Dg rxL rxX vwCl (lz_A s) ad l rxM208 rxC208 (fun _ _ => True) rzPS208) : lz_M l s Dg PX ad rxM208 rxC208.2.2.2.1 0 (lz_xs xs 1 a) lzK (fun v => v.category = 1) (fun _ => lzK44 (xs a).toInt) := by
  refine lz_conPM (q := 0) (tc := 0) h ⟨_, rfl⟩ ⟨_, rfl⟩ rfl (fun _ _ _ => trivial) fun S0 S y hk hI0 hI hs hp => ⟨rfl, ?_⟩
  obtain ⟨k, e1, hp⟩ := hp
  have e : (xs a).toInt = k := lz_1eq e1
  rw [e]
  have hK := hk
  obtain ⟨k0_0, k1_0, k2_0, kp0, kp1, kx0, kx1, kx2⟩ := hk
  rcases hp with ⟨rfl, hp⟩ | ⟨rfl, hp⟩ | ⟨hk1, hp⟩
  · obtain ⟨S1, ⟨hcf, h410⟩, rfl, -⟩ := hp
    obtain ⟨-, h0, h1, h2, h3, h4, h5, h6, h7, h8, h9, h10, h11, h12, h13, h14, h15, h16, h17, h18, h19, hf⟩ := hcf
    exact Or.inl ⟨rfl, ((bx_up_ne (by omega)).trans ((bx_up_ne (by omega)).trans (hf 1 0 (by decide) (by decide)))).trans (k0_0.trans ((hs 482 0 (by decide) (by decide) (by decide +kernel))).symm), ((bx_up_ne (by omega)).trans ((bx_up_ne (by omega)).trans (h0))).trans (k0_0.trans (hs 482 0 (by decide) (by decide) (by decide +kernel)).symm), ((bx_up_ne (by omega)).trans ((bx_up_ne (by omega)).trans (hf 274 0 (by decide) (by decide)))).trans (k2_0.trans ((rx_same64 (by decide +kernel) (by decide +kernel) hs (i := 6180) (by decide) (by decide))).symm), (bx_up_ne (by omega)).trans bx_up_at, ((bx_up_ne (by omega)).trans ((bx_up_ne (by omega)).trans (h410 1 (by decide)))).trans (kp1.trans ((hs 484 1 (by decide) (by decide) (by decide +kernel))).symm), ((hs 0 4 (by decide) (by decide) (by decide +kernel))).trans (kx0.trans ((hs 480 8 (by decide) (by decide) (by decide +kernel))).symm), ((hs 0 7 (by decide) (by decide) (by decide +kernel))).trans (kx1.trans ((hs 480 6 (by decide) (by decide) (by decide +kernel))).symm), (fun i i0 i1 => ((lz_fd hs (p := 411) (n := 400) (c := 1032) (k := 0) (by decide +kernel) (by decide) (by decide +kernel) i0 i1)).trans ((kx2 i i0 i1).trans ((lz_fd hs (p := 485) (n := 400) (c := 1066) (k := 0) (by decide +kernel) (by decide) (by decide +kernel) i0 i1)).symm))⟩
  · obtain ⟨S1, ⟨hcf, h410⟩, rfl, -⟩ := hp
    obtain ⟨-, h0, h1, h2, h3, h4, h5, h6, h7, h8, h9, h10, h11, h12, h13, h14, h15, h16, h17, h18, h19, hf⟩ := hcf
    exact Or.inr (Or.inl ⟨rfl, ((bx_up_ne (by omega)).trans ((bx_up_ne (by omega)).trans (hf 1 0 (by decide) (by decide)))).trans (k0_0.trans ((hs 482 0 (by decide) (by decide) (by decide +kernel))).symm), ((bx_up_ne (by omega)).trans ((bx_up_ne (by omega)).trans (hf 138 0 (by decide) (by decide)))).trans (k1_0.trans ((rx_same64 (by decide +kernel) (by decide +kernel) hs (i := 0) (by decide) (by decide))).symm), ((bx_up_ne (by omega)).trans ((bx_up_ne (by omega)).trans (h0))).trans (k0_0.trans (hs 482 0 (by decide) (by decide) (by decide +kernel)).symm), ((bx_up_ne (by omega)).trans ((bx_up_ne (by omega)).trans (h410 0 (by decide)))).trans (kp0.trans ((hs 484 0 (by decide) (by decide) (by decide +kernel))).symm), (bx_up_ne (by omega)).trans bx_up_at, ((hs 0 4 (by decide) (by decide) (by decide +kernel))).trans (kx0.trans ((hs 480 8 (by decide) (by decide) (by decide +kernel))).symm), ((hs 0 7 (by decide) (by decide) (by decide +kernel))).trans (kx1.trans ((hs 480 6 (by decide) (by decide) (by decide +kernel))).symm), (fun i i0 i1 => ((lz_fd hs (p := 411) (n := 400) (c := 1032) (k := 0) (by decide +kernel) (by decide) (by decide +kernel) i0 i1)).trans ((kx2 i i0 i1).trans ((lz_fd hs (p := 485) (n := 400) (c := 1066) (k := 0) (by decide +kernel) (by decide) (by decide +kernel) i0 i1)).symm))⟩)
  · exact Or.inr (Or.inr ⟨hk1, lzK_keep (by decide +kernel) hK hp.2⟩)
set_option maxHeartbeats 1000000 in
theorem lz_m44b (h : bx_ConP rxG rxNW rxAO PX Dg rxL rxX vwCl (lz_A s) ad l rxM209 rxC209 (fun _ _ => True) rxPS209) : lz_M l s Dg PX ad rxM209 rxC209.2.2.2.1 480 (lz_xs xs 1 a) (lzK44 (xs a).toInt) (fun v => v.category = 1) (fun _ => lzK) := by
  refine lz_conPM (q := 480) (tc := 0) h ⟨_, rfl⟩ ⟨_, rfl⟩ rfl (fun _ _ _ => trivial) fun S0 S y hk hI0 hI hs hp => ⟨rfl, ?_⟩
  obtain ⟨k, e1, hp, c4⟩ := hp
  have e : (xs a).toInt = k := lz_1eq e1
  rcases hk with ⟨hk0, k0_0, k1_0, k2_0, kp0, kp1, kx0, kx1, kx2⟩ | ⟨hk0, k0_0, k1_0, k2_0, kp0, kp1, kx0, kx1, kx2⟩ | ⟨hk0, k0_0, k1_0, k2_0, kp0, kp1, kx0, kx1, kx2⟩
  · have ek : k = 0 := e.symm.trans hk0
    subst ek
    rcases hp with ⟨k0, k1, -, c1, c2⟩ | ⟨k0, -, -⟩
    · exact ⟨((hs 1 0 (by decide) (by decide) (by decide +kernel))).trans (k0_0.trans ((hs 482 0 (by decide) (by decide) (by decide +kernel))).symm), ((hs 138 0 (by decide) (by decide) (by decide +kernel))).trans (k1_0.trans (c1 0 (by decide) (by decide)).symm), ((hs 274 0 (by decide) (by decide) (by decide +kernel))).trans (k2_0.trans (c2 6180 (by omega)).symm), ((hs 410 0 (by decide) (by decide) (by decide +kernel))).trans ((kp0).trans ((c4 0 (by decide) (by decide)).trans (if_pos rfl)).symm), ((hs 410 1 (by decide) (by decide) (by decide +kernel))).trans ((kp1).trans ((c4 1 (by decide) (by decide)).trans (if_neg (by decide))).symm), ((hs 0 4 (by decide) (by decide) (by decide +kernel))).trans (kx0.trans ((hs 480 8 (by decide) (by decide) (by decide +kernel))).symm), ((hs 0 7 (by decide) (by decide) (by decide +kernel))).trans (kx1.trans ((hs 480 6 (by decide) (by decide) (by decide +kernel))).symm), (fun i i0 i1 => ((lz_fd hs (p := 411) (n := 400) (c := 1032) (k := 0) (by decide +kernel) (by decide) (by decide +kernel) i0 i1)).trans ((kx2 i i0 i1).trans ((lz_fd hs (p := 485) (n := 400) (c := 1066) (k := 0) (by decide +kernel) (by decide) (by decide +kernel) i0 i1)).symm))⟩
    · omega
  · have ek : k = 1 := e.symm.trans hk0
    subst ek
    rcases hp with ⟨k0, k1, -, c1, c2⟩ | ⟨k0, -, -⟩
    · exact ⟨((hs 1 0 (by decide) (by decide) (by decide +kernel))).trans (k0_0.trans ((hs 482 0 (by decide) (by decide) (by decide +kernel))).symm), ((hs 138 0 (by decide) (by decide) (by decide +kernel))).trans (k1_0.trans (c2 0 (by omega)).symm), ((hs 274 0 (by decide) (by decide) (by decide +kernel))).trans (k2_0.trans (c1 0 (by decide) (by decide)).symm), ((hs 410 0 (by decide) (by decide) (by decide +kernel))).trans ((kp0).trans ((c4 0 (by decide) (by decide)).trans (if_neg (by decide))).symm), ((hs 410 1 (by decide) (by decide) (by decide +kernel))).trans ((kp1).trans ((c4 1 (by decide) (by decide)).trans (if_pos rfl)).symm), ((hs 0 4 (by decide) (by decide) (by decide +kernel))).trans (kx0.trans ((hs 480 8 (by decide) (by decide) (by decide +kernel))).symm), ((hs 0 7 (by decide) (by decide) (by decide +kernel))).trans (kx1.trans ((hs 480 6 (by decide) (by decide) (by decide +kernel))).symm), (fun i i0 i1 => ((lz_fd hs (p := 411) (n := 400) (c := 1032) (k := 0) (by decide +kernel) (by decide) (by decide +kernel) i0 i1)).trans ((kx2 i i0 i1).trans ((lz_fd hs (p := 485) (n := 400) (c := 1066) (k := 0) (by decide +kernel) (by decide) (by decide +kernel) i0 i1)).symm))⟩
    · omega
  · rcases hp with ⟨k0, k1, -⟩ | ⟨-, -, c3⟩
    · omega
    · exact ⟨((hs 1 0 (by decide) (by decide) (by decide +kernel))).trans (k0_0.trans ((hs 482 0 (by decide) (by decide) (by decide +kernel))).symm), ((hs 138 0 (by decide) (by decide) (by decide +kernel))).trans (k1_0.trans (c3 0).symm), ((hs 274 0 (by decide) (by decide) (by decide +kernel))).trans (k2_0.trans (c3 6180).symm), ((hs 410 0 (by decide) (by decide) (by decide +kernel))).trans (kp0.trans ((c4 0 (by decide) (by decide)).trans (if_neg (by omega))).symm), ((hs 410 1 (by decide) (by decide) (by decide +kernel))).trans (kp1.trans ((c4 1 (by decide) (by decide)).trans (if_neg (by omega))).symm), ((hs 0 4 (by decide) (by decide) (by decide +kernel))).trans (kx0.trans ((hs 480 8 (by decide) (by decide) (by decide +kernel))).symm), ((hs 0 7 (by decide) (by decide) (by decide +kernel))).trans (kx1.trans ((hs 480 6 (by decide) (by decide) (by decide +kernel))).symm), (fun i i0 i1 => ((lz_fd hs (p := 411) (n := 400) (c := 1032) (k := 0) (by decide +kernel) (by decide) (by decide +kernel) i0 i1)).trans ((kx2 i i0 i1).trans ((lz_fd hs (p := 485) (n := 400) (c := 1066) (k := 0) (by decide +kernel) (by decide) (by decide +kernel) i0 i1)).symm))⟩
/-- behind the developers' back -/
def lzK45 (k : Int) (v : Value) (S : Nat → Int → Int) : Prop := ((k < 0 ∨ 1 < k) ∧ v = .int (Int32.ofInt (-1)) ∧ lzK S) ∨ (k = 0 ∧ S 484 0 = 0 ∧ v = .int (Int32.ofInt (-2)) ∧ lzK S) ∨ (k = 1 ∧ S 484 1 = 0 ∧ v = .int (Int32.ofInt (-2)) ∧ lzK S) ∨ (k = 0 ∧ S 484 0 ≠ 0 ∧ v = .int (Int32.ofInt 0) ∧ S 1 0 = S 483 0 ∧ S 138 0 = S 483 0 ∧ S 274 0 = S 483 6180 ∧ S 410 0 = S 484 0 ∧ S 410 1 = S 484 1 ∧ S 0 4 = S 480 8 ∧ S 0 7 = S 480 6 ∧ (∀ i : Int, 0 ≤ i → i < 400 → S 411 i = S 485 i)) ∨ (k = 1 ∧ S 484 1 ≠ 0 ∧ v = .int (Int32.ofInt 0) ∧ S 1 0 = S 483 6180 ∧ S 138 0 = S 483 0 ∧ S 274 0 = S 483 6180 ∧ S 410 0 = S 484 0 ∧ S 410 1 = S 484 1 ∧ S 0 4 = S 480 8 ∧ S 0 7 = S 480 6 ∧ (∀ i : Int, 0 ≤ i → i < 400 → S 411 i = S 485 i))
set_option maxHeartbeats 1000000 in
theorem lz_m45a (h : bx_ConP rxG rxNW rxAO PX Dg rxL rxX vwCl (lz_A s) ad l rxM210 rxC210 (fun _ _ => True) rzPS210) : lz_M l s Dg PX ad rxM210 rxC210.2.2.2.1 0 (lz_xs xs 1 a) lzK (fun v => ∃ x : Int32, v = .int x) (lzK45 (xs a).toInt) := by
  refine lz_conPM (q := 0) (tc := 0) h ⟨_, rfl⟩ ⟨_, rfl⟩ rfl (fun _ _ _ => trivial) fun S0 S y hk hI0 hI hs hp => ⟨⟨_, rfl⟩, ?_⟩
  obtain ⟨k, e1, hp⟩ := hp
  have e : (xs a).toInt = k := lz_1eq e1
  rw [e]
  have hK := hk
  obtain ⟨k0_0, k1_0, k2_0, kp0, kp1, kx0, kx1, kx2⟩ := hk
  rcases hp with ⟨rfl, hp⟩ | ⟨rfl, hp⟩ | ⟨hk1, hp⟩
  · rcases hp with ⟨z1, z2, z3⟩ | ⟨z1, z2, S1, hcf, rfl⟩
    · refine Or.inr ((Or.inl ⟨rfl, ((hs 484 0 (by decide) (by decide) (by decide +kernel))).trans (kp0.symm.trans z1), ?_, lzK_keep (by decide +kernel) hK z3⟩))
      exact congrArg (fun z => Value.int (Int32.ofInt z)) (Option.some.inj z2)
    · obtain ⟨-, h0, h1, h2, h3, h4, h5, h6, h7, h8, h9, h10, h11, h12, h13, h14, h15, h16, h17, h18, h19, hf⟩ := hcf
      refine Or.inr (Or.inr (Or.inr (Or.inl ⟨rfl, fun q => z1 (kp0.trans (((hs 484 0 (by decide) (by decide) (by decide +kernel))).symm.trans q)), ?_, ((bx_up_ne (by omega)).trans (h0)).trans (k1_0.trans (rx_same64 (by decide +kernel) (by decide +kernel) hs (i := 0) (by decide) (by decide)).symm), ((bx_up_ne (by omega)).trans (hf 138 0 (by decide) (by decide))).trans (k1_0.trans ((rx_same64 (by decide +kernel) (by decide +kernel) hs (i := 0) (by decide) (by decide))).symm), ((bx_up_ne (by omega)).trans (hf 274 0 (by decide) (by decide))).trans (k2_0.trans ((rx_same64 (by decide +kernel) (by decide +kernel) hs (i := 6180) (by decide) (by decide))).symm), ((hs 410 0 (by decide) (by decide) (by decide +kernel))).trans (kp0.trans ((hs 484 0 (by decide) (by decide) (by decide +kernel))).symm), ((hs 410 1 (by decide) (by decide) (by decide +kernel))).trans (kp1.trans ((hs 484 1 (by decide) (by decide) (by decide +kernel))).symm), ((hs 0 4 (by decide) (by decide) (by decide +kernel))).trans (kx0.trans ((hs 480 8 (by decide) (by decide) (by decide +kernel))).symm), ((hs 0 7 (by decide) (by decide) (by decide +kernel))).trans (kx1.trans ((hs 480 6 (by decide) (by decide) (by decide +kernel))).symm), (fun i i0 i1 => ((lz_fd hs (p := 411) (n := 400) (c := 1032) (k := 0) (by decide +kernel) (by decide) (by decide +kernel) i0 i1)).trans ((kx2 i i0 i1).trans ((lz_fd hs (p := 485) (n := 400) (c := 1066) (k := 0) (by decide +kernel) (by decide) (by decide +kernel) i0 i1)).symm))⟩)))
      exact congrArg (fun z => Value.int (Int32.ofInt z)) (Option.some.inj z2)
  · rcases hp with ⟨z1, z2, z3⟩ | ⟨z1, z2, S1, hcf, rfl⟩
    · refine Or.inr (Or.inr (Or.inl ⟨rfl, ((hs 484 1 (by decide) (by decide) (by decide +kernel))).trans (kp1.symm.trans z1), ?_, lzK_keep (by decide +kernel) hK z3⟩))
      exact congrArg (fun z => Value.int (Int32.ofInt z)) (Option.some.inj z2)
    · obtain ⟨-, h0, h1, h2, h3, h4, h5, h6, h7, h8, h9, h10, h11, h12, h13, h14, h15, h16, h17, h18, h19, hf⟩ := hcf
      refine Or.inr (Or.inr (Or.inr (Or.inr ⟨rfl, fun q => z1 (kp1.trans (((hs 484 1 (by decide) (by decide) (by decide +kernel))).symm.trans q)), ?_, ((bx_up_ne (by omega)).trans (h0)).trans (k2_0.trans (rx_same64 (by decide +kernel) (by decide +kernel) hs (i := 6180) (by decide) (by decide)).symm), ((bx_up_ne (by omega)).trans (hf 138 0 (by decide) (by decide))).trans (k1_0.trans ((rx_same64 (by decide +kernel) (by decide +kernel) hs (i := 0) (by decide) (by decide))).symm), ((bx_up_ne (by omega)).trans (hf 274 0 (by decide) (by decide))).trans (k2_0.trans ((rx_same64 (by decide +kernel) (by decide +kernel) hs (i := 6180) (by decide) (by decide))).symm), ((hs 410 0 (by decide) (by decide) (by decide +kernel))).trans (kp0.trans ((hs 484 0 (by decide) (by decide) (by decide +kernel))).symm), ((hs 410 1 (by decide) (by decide) (by decide +kernel))).trans (kp1.trans ((hs 484 1 (by decide) (by decide) (by decide +kernel))).symm), ((hs 0 4 (by decide) (by decide) (by decide +kernel))).trans (kx0.trans ((hs 480 8 (by decide) (by decide) (by decide +kernel))).symm), ((hs 0 7 (by decide) (by decide) (by decide +kernel))).trans (kx1.trans ((hs 480 6 (by decide) (by decide) (by decide +kernel))).symm), (fun i i0 i1 => ((lz_fd hs (p := 411) (n := 400) (c := 1032) (k := 0) (by decide +kernel) (by decide) (by decide +kernel) i0 i1)).trans ((kx2 i i0 i1).trans ((lz_fd hs (p := 485) (n := 400) (c := 1066) (k := 0) (by decide +kernel) (by decide) (by decide +kernel) i0 i1)).symm))⟩)))
      exact congrArg (fun z => Value.int (Int32.ofInt z)) (Option.some.inj z2)
  · refine Or.inl ⟨hk1, ?_, lzK_keep (by decide +kernel) hK hp.2⟩
    exact congrArg (fun z => Value.int (Int32.ofInt z)) (Option.some.inj hp.1)
set_option maxHeartbeats 1000000 in
theorem lz_m45b {v : Value} (h : bx_ConP rxG rxNW rxAO PX Dg rxL rxX vwCl (lz_A s) ad l rxM211 rxC211 (fun _ _ => True) rxPS211) : lz_M l s Dg PX ad rxM211 rxC211.2.2.2.1 480 (lz_xs xs 1 a) (lzK45 (xs a).toInt v) (fun v' => v' = v) (fun _ => lzK) := by
  refine lz_conPM (q := 480) (tc := 0) h ⟨_, rfl⟩ ⟨_, rfl⟩ rfl (fun _ _ _ => trivial) fun S0 S y hk hI0 hI hs hp => ?_
  obtain ⟨k, e1, hp⟩ := hp
  have e : (xs a).toInt = k := lz_1eq e1
  have hy : ∀ z : Int, y = z → bx_fv ad 0 y = Value.int (Int32.ofInt z) := fun z q => by rw [q]; rfl
  rcases hk with ⟨hk0, hv, k0_0, k1_0, k2_0, kp0, kp1, kx0, kx1, kx2⟩ | ⟨hk0, hz, hv, k0_0, k1_0, k2_0, kp0, kp1, kx0, kx1, kx2⟩ | ⟨hk0, hz, hv, k0_0, k1_0, k2_0, kp0, kp1, kx0, kx1, kx2⟩ | ⟨hk0, hz, hv, k0_0, k1_0, k2_0, kp0, kp1, kx0, kx1, kx2⟩ | ⟨hk0, hz, hv, k0_0, k1_0, k2_0, kp0, kp1, kx0, kx1, kx2⟩
  · rcases hp with ⟨k0, k1, -⟩ | ⟨-, c2, c3⟩
    · omega
    · rw [if_pos (by omega)] at c2
      exact ⟨(hy _ (Option.some.inj c2)).trans hv.symm, ⟨((hs 1 0 (by decide) (by decide) (by decide +kernel))).trans (k0_0.trans (c3 0).symm), ((hs 138 0 (by decide) (by decide) (by decide +kernel))).trans (k1_0.trans ((rx_same64 (by decide +kernel) (by decide +kernel) hs (i := 0) (by decide) (by decide))).symm), ((hs 274 0 (by decide) (by decide) (by decide +kernel))).trans (k2_0.trans ((rx_same64 (by decide +kernel) (by decide +kernel) hs (i := 6180) (by decide) (by decide))).symm), ((hs 410 0 (by decide) (by decide) (by decide +kernel))).trans (kp0.trans ((hs 484 0 (by decide) (by decide) (by decide +kernel))).symm), ((hs 410 1 (by decide) (by decide) (by decide +kernel))).trans (kp1.trans ((hs 484 1 (by decide) (by decide) (by decide +kernel))).symm), ((hs 0 4 (by decide) (by decide) (by decide +kernel))).trans (kx0.trans ((hs 480 8 (by decide) (by decide) (by decide +kernel))).symm), ((hs 0 7 (by decide) (by decide) (by decide +kernel))).trans (kx1.trans ((hs 480 6 (by decide) (by decide) (by decide +kernel))).symm), (fun i i0 i1 => ((lz_fd hs (p := 411) (n := 400) (c := 1032) (k := 0) (by decide +kernel) (by decide) (by decide +kernel) i0 i1)).trans ((kx2 i i0 i1).trans ((lz_fd hs (p := 485) (n := 400) (c := 1066) (k := 0) (by decide +kernel) (by decide) (by decide +kernel) i0 i1)).symm))⟩⟩
  · have ek : k = 0 := e.symm.trans hk0
    subst ek
    rcases hp with ⟨-, -, c1, -⟩ | ⟨-, c2, c3⟩
    · omega
    · rw [if_neg (by omega)] at c2
      exact ⟨(hy _ (Option.some.inj c2)).trans hv.symm, ⟨((hs 1 0 (by decide) (by decide) (by decide +kernel))).trans (k0_0.trans (c3 0).symm), ((hs 138 0 (by decide) (by decide) (by decide +kernel))).trans (k1_0.trans ((rx_same64 (by decide +kernel) (by decide +kernel) hs (i := 0) (by decide) (by decide))).symm), ((hs 274 0 (by decide) (by decide) (by decide +kernel))).trans (k2_0.trans ((rx_same64 (by decide +kernel) (by decide +kernel) hs (i := 6180) (by decide) (by decide))).symm), ((hs 410 0 (by decide) (by decide) (by decide +kernel))).trans (kp0.trans ((hs 484 0 (by decide) (by decide) (by decide +kernel))).symm), ((hs 410 1 (by decide) (by decide) (by decide +kernel))).trans (kp1.trans ((hs 484 1 (by decide) (by decide) (by decide +kernel))).symm), ((hs 0 4 (by decide) (by decide) (by decide +kernel))).trans (kx0.trans ((hs 480 8 (by decide) (by decide) (by decide +kernel))).symm), ((hs 0 7 (by decide) (by decide) (by decide +kernel))).trans (kx1.trans ((hs 480 6 (by decide) (by decide) (by decide +kernel))).symm), (fun i i0 i1 => ((lz_fd hs (p := 411) (n := 400) (c := 1032) (k := 0) (by decide +kernel) (by decide) (by decide +kernel) i0 i1)).trans ((kx2 i i0 i1).trans ((lz_fd hs (p := 485) (n := 400) (c := 1066) (k := 0) (by decide +kernel) (by decide) (by decide +kernel) i0 i1)).symm))⟩⟩
  · have ek : k = 1 := e.symm.trans hk0
    subst ek
    rcases hp with ⟨-, -, c1, -⟩ | ⟨-, c2, c3⟩
    · omega
    · rw [if_neg (by omega)] at c2
      exact ⟨(hy _ (Option.some.inj c2)).trans hv.symm, ⟨((hs 1 0 (by decide) (by decide) (by decide +kernel))).trans (k0_0.trans (c3 0).symm), ((hs 138 0 (by decide) (by decide) (by decide +kernel))).trans (k1_0.trans ((rx_same64 (by decide +kernel) (by decide +kernel) hs (i := 0) (by decide) (by decide))).symm), ((hs 274 0 (by decide) (by decide) (by decide +kernel))).trans (k2_0.trans ((rx_same64 (by decide +kernel) (by decide +kernel) hs (i := 6180) (by decide) (by decide))).symm), ((hs 410 0 (by decide) (by decide) (by decide +kernel))).trans (kp0.trans ((hs 484 0 (by decide) (by decide) (by decide +kernel))).symm), ((hs 410 1 (by decide) (by decide) (by decide +kernel))).trans (kp1.trans ((hs 484 1 (by decide) (by decide) (by decide +kernel))).symm), ((hs 0 4 (by decide) (by decide) (by decide +kernel))).trans (kx0.trans ((hs 480 8 (by decide) (by decide) (by decide +kernel))).symm), ((hs 0 7 (by decide) (by decide) (by decide +kernel))).trans (kx1.trans ((hs 480 6 (by decide) (by decide) (by decide +kernel))).symm), (fun i i0 i1 => ((lz_fd hs (p := 411) (n := 400) (c := 1032) (k := 0) (by decide +kernel) (by decide) (by decide +kernel) i0 i1)).trans ((kx2 i i0 i1).trans ((lz_fd hs (p := 485) (n := 400) (c := 1066) (k := 0) (by decide +kernel) (by decide) (by decide +kernel) i0 i1)).symm))⟩⟩
  · have ek : k = 0 := e.symm.trans hk0
    subst ek
    rcases hp with ⟨-, -, -, c2, c1⟩ | ⟨c1, -, -⟩
    · exact ⟨(hy _ (Option.some.inj c2)).trans hv.symm, ⟨((hs 1 0 (by decide) (by decide) (by decide +kernel))).trans (k0_0.trans (c1 0 (by decide) (by decide)).symm), ((hs 138 0 (by decide) (by decide) (by decide +kernel))).trans (k1_0.trans ((rx_same64 (by decide +kernel) (by decide +kernel) hs (i := 0) (by decide) (by decide))).symm), ((hs 274 0 (by decide) (by decide) (by decide +kernel))).trans (k2_0.trans ((rx_same64 (by decide +kernel) (by decide +kernel) hs (i := 6180) (by decide) (by decide))).symm), ((hs 410 0 (by decide) (by decide) (by decide +kernel))).trans (kp0.trans ((hs 484 0 (by decide) (by decide) (by decide +kernel))).symm), ((hs 410 1 (by decide) (by decide) (by decide +kernel))).trans (kp1.trans ((hs 484 1 (by decide) (by decide) (by decide +kernel))).symm), ((hs 0 4 (by decide) (by decide) (by decide +kernel))).trans (kx0.trans ((hs 480 8 (by decide) (by decide) (by decide +kernel))).symm), ((hs 0 7 (by decide) (by decide) (by decide +kernel))).trans (kx1.trans ((hs 480 6 (by decide) (by decide) (by decide +kernel))).symm), (fun i i0 i1 => ((lz_fd hs (p := 411) (n := 400) (c := 1032) (k := 0) (by decide +kernel) (by decide) (by decide +kernel) i0 i1)).trans ((kx2 i i0 i1).trans ((lz_fd hs (p := 485) (n := 400) (c := 1066) (k := 0) (by decide +kernel) (by decide) (by decide +kernel) i0 i1)).symm))⟩⟩
    · omega
  · have ek : k = 1 := e.symm.trans hk0
    subst ek
    rcases hp with ⟨-, -, -, c2, c1⟩ | ⟨c1, -, -⟩
    · exact ⟨(hy _ (Option.some.inj c2)).trans hv.symm, ⟨((hs 1 0 (by decide) (by decide) (by decide +kernel))).trans (k0_0.trans (c1 0 (by decide) (by decide)).symm), ((hs 138 0 (by decide) (by decide) (by decide +kernel))).trans (k1_0.trans ((rx_same64 (by decide +kernel) (by decide +kernel) hs (i := 0) (by decide) (by decide))).symm), ((hs 274 0 (by decide) (by decide) (by decide +kernel))).trans (k2_0.trans ((rx_same64 (by decide +kernel) (by decide +kernel) hs (i := 6180) (by decide) (by decide))).symm), ((hs 410 0 (by decide) (by decide) (by decide +kernel))).trans (kp0.trans ((hs 484 0 (by decide) (by decide) (by decide +kernel))).symm), ((hs 410 1 (by decide) (by decide) (by decide +kernel))).trans (kp1.trans ((hs 484 1 (by decide) (by decide) (by decide +kernel))).symm), ((hs 0 4 (by decide) (by decide) (by decide +kernel))).trans (kx0.trans ((hs 480 8 (by decide) (by decide) (by decide +kernel))).symm), ((hs 0 7 (by decide) (by decide) (by decide +kernel))).trans (kx1.trans ((hs 480 6 (by decide) (by decide) (by decide +kernel))).symm), (fun i i0 i1 => ((lz_fd hs (p := 411) (n := 400) (c := 1032) (k := 0) (by decide +kernel) (by decide) (by decide +kernel) i0 i1)).trans ((kx2 i i0 i1).trans ((lz_fd hs (p := 485) (n := 400) (c := 1066) (k := 0) (by decide +kernel) (by decide) (by decide +kernel) i0 i1)).symm))⟩⟩
    · omega
def lzK0 (fa : Int) (tb : Int) (v : Value) (S : Nat → Int → Int) : Prop := ((fa < 0 ∨ 23 < fa ∨ tb ≤ fa ∨ 24 < tb) ∧ v = .int (Int32.ofInt (-1)) ∧ lzK S) ∨ (0 ≤ fa ∧ fa ≤ 23 ∧ fa < tb ∧ tb ≤ 24 ∧ 6 ≤ S 482 0 ∧ v = .int (Int32.ofInt (-5)) ∧ lzK S) ∨ (0 ≤ fa ∧ fa ≤ 23 ∧ fa < tb ∧ tb ≤ 24 ∧ S 482 0 < 6 ∧ v = .int (Int32.ofInt (S 482 0)) ∧ S 1 0 = S 482 0 + 1 ∧ S 138 0 = S 483 0 ∧ S 274 0 = S 483 6180 ∧ S 410 0 = S 484 0 ∧ S 410 1 = S 484 1 ∧ S 0 4 = S 480 8 ∧ S 0 7 = S 480 6 ∧ (∀ i : Int, 0 ≤ i → i < 400 → S 411 i = S 485 i))
set_option maxHeartbeats 2000000 in
theorem lz_m0a (h : bx_ConP rxG rxNW rxAO PX Dg rxL rxX vwCl (lz_A s) ad l rxM172 rxC172 (fun _ _ => True) rxPS172) : lz_M l s Dg PX ad rxM172 rxC172.2.2.2.1 0 (lz_xs xs 2 a) lzK (fun v => ∃ x : Int32, v = .int x) (lzK0 (xs a).toInt (xs (a + 1)).toInt) := by
  refine lz_conPM (q := 0) (tc := 0) h ⟨_, rfl⟩ ⟨_, rfl⟩ rfl (fun _ _ _ => trivial) fun S0 S y hk hI0 hI hs hp => ⟨⟨_, rfl⟩, ?_⟩
  obtain ⟨fa, tb, e1, hp⟩ := hp
  have efa : (xs a).toInt = fa := Option.some.inj (congrArg (fun l : List Int => l[1]?) e1)
  have etb : (xs (a + 1)).toInt = tb := Option.some.inj (congrArg (fun l : List Int => l[2]?) e1)
  rw [efa]
  rw [etb]
  have hK := hk
  obtain ⟨k0_0, k1_0, k2_0, kp0, kp1, kx0, kx1, kx2⟩ := hk
  have hR0 : S 482 0 = S0 482 0 := (hs 482 0 (by decide) (by decide) (by decide +kernel))
  rcases hp with ⟨g10, g2, g3⟩ | ⟨g10, g11, g12, g13, g14, g2, g3⟩ | ⟨g10, g11, g12, g13, g14, g2, g30, g60, g61⟩
  · refine Or.inl (⟨by omega, ?_, ?_⟩)
    · exact congrArg (fun z => Value.int (Int32.ofInt z)) (Option.some.inj g2)
    · exact lzK_keep (by decide +kernel) hK g3
  · refine Or.inr (Or.inl (⟨by omega, by omega, by omega, by omega, by omega, ?_, ?_⟩))
    · exact congrArg (fun z => Value.int (Int32.ofInt z)) (Option.some.inj g2)
    · exact lzK_keep (by decide +kernel) hK g3
  · refine Or.inr (Or.inr (⟨by omega, by omega, by omega, by omega, by omega, ?_, g30.trans (by first | rfl | (rw [k0_0, hR0]) | first | rfl | omega | (rw [k0_0, hR0])), (g60).trans (k1_0.trans ((rx_same64 (by decide +kernel) (by decide +kernel) hs (i := 0) (by decide) (by decide))).symm), (g61).trans (k2_0.trans ((rx_same64 (by decide +kernel) (by decide +kernel) hs (i := 6180) (by decide) (by decide))).symm), ((hs 410 0 (by decide) (by decide) (by decide +kernel))).trans (kp0.trans ((hs 484 0 (by decide) (by decide) (by decide +kernel))).symm), ((hs 410 1 (by decide) (by decide) (by decide +kernel))).trans (kp1.trans ((hs 484 1 (by decide) (by decide) (by decide +kernel))).symm), ((hs 0 4 (by decide) (by decide) (by decide +kernel))).trans (kx0.trans ((hs 480 8 (by decide) (by decide) (by decide +kernel))).symm), ((hs 0 7 (by decide) (by decide) (by decide +kernel))).trans (kx1.trans ((hs 480 6 (by decide) (by decide) (by decide +kernel))).symm), (fun i i0 i1 => ((lz_fd hs (p := 411) (n := 400) (c := 1032) (k := 0) (by decide +kernel) (by decide) (by decide +kernel) i0 i1)).trans ((kx2 i i0 i1).trans ((lz_fd hs (p := 485) (n := 400) (c := 1066) (k := 0) (by decide +kernel) (by decide) (by decide +kernel) i0 i1)).symm))⟩))
    · exact congrArg (fun z => Value.int (Int32.ofInt z)) ((Option.some.inj g2).trans (by first | rfl | omega | (rw [k0_0, hR0])))
set_option maxHeartbeats 2000000 in
theorem lz_m0b {v : Value} (h : bx_ConP rxG rxNW rxAO PX Dg rxL rxX vwCl (lz_A s) ad l rxM193 rxC193 (fun _ _ => True) rxPS193) : lz_M l s Dg PX ad rxM193 rxC193.2.2.2.1 480 (lz_xs xs 2 a) (lzK0 (xs a).toInt (xs (a + 1)).toInt v) (fun v' => v' = v) (fun _ => lzK) := by
  refine lz_conPM (q := 480) (tc := 0) h ⟨_, rfl⟩ ⟨_, rfl⟩ rfl (fun _ _ _ => trivial) fun S0 S y hk hI0 hI hs hp => ?_
  obtain ⟨fa, tb, e1, hp⟩ := hp
  have efa : (xs a).toInt = fa := Option.some.inj (congrArg (fun l : List Int => l[1]?) e1)
  have etb : (xs (a + 1)).toInt = tb := Option.some.inj (congrArg (fun l : List Int => l[2]?) e1)
  rw [efa] at hk
  rw [etb] at hk
  have hy : ∀ z : Int, y = z → bx_fv ad 0 y = Value.int (Int32.ofInt z) := fun z q => by rw [q]; rfl
  rcases hk with ⟨q10, hv, hK⟩ | ⟨q10, q11, q12, q13, q14, hv, hK⟩ | ⟨q10, q11, q12, q13, q14, hv, hn0, k1_0, k2_0, kp0, kp1, kx0, kx1, kx2⟩
  · rcases hp with ⟨g10, g2, g3⟩ | ⟨g10, g11, g12, g13, g14, g2, g3⟩ | ⟨g10, g11, g12, g13, g14, g2, g30⟩
    · refine ⟨(hy _ (Option.some.inj g2)).trans hv.symm, ?_⟩
      obtain ⟨k0_0, k1_0, k2_0, kp0, kp1, kx0, kx1, kx2⟩ := hK
      exact ⟨((hs 1 0 (by decide) (by decide) (by decide +kernel))).trans (k0_0.trans (g3 0).symm), ((hs 138 0 (by decide) (by decide) (by decide +kernel))).trans (k1_0.trans ((rx_same64 (by decide +kernel) (by decide +kernel) hs (i := 0) (by decide) (by decide))).symm), ((hs 274 0 (by decide) (by decide) (by decide +kernel))).trans (k2_0.trans ((rx_same64 (by decide +kernel) (by decide +kernel) hs (i := 6180) (by decide) (by decide))).symm), ((hs 410 0 (by decide) (by decide) (by decide +kernel))).trans (kp0.trans ((hs 484 0 (by decide) (by decide) (by decide +kernel))).symm), ((hs 410 1 (by decide) (by decide) (by decide +kernel))).trans (kp1.trans ((hs 484 1 (by decide) (by decide) (by decide +kernel))).symm), ((hs 0 4 (by decide) (by decide) (by decide +kernel))).trans (kx0.trans ((hs 480 8 (by decide) (by decide) (by decide +kernel))).symm), ((hs 0 7 (by decide) (by decide) (by decide +kernel))).trans (kx1.trans ((hs 480 6 (by decide) (by decide) (by decide +kernel))).symm), (fun i i0 i1 => ((lz_fd hs (p := 411) (n := 400) (c := 1032) (k := 0) (by decide +kernel) (by decide) (by decide +kernel) i0 i1)).trans ((kx2 i i0 i1).trans ((lz_fd hs (p := 485) (n := 400) (c := 1066) (k := 0) (by decide +kernel) (by decide) (by decide +kernel) i0 i1)).symm))⟩
    · exfalso; omega
    · exfalso; omega
  · rcases hp with ⟨g10, g2, g3⟩ | ⟨g10, g11, g12, g13, g14, g2, g3⟩ | ⟨g10, g11, g12, g13, g14, g2, g30⟩
    · exfalso; omega
    · refine ⟨(hy _ (Option.some.inj g2)).trans hv.symm, ?_⟩
      obtain ⟨k0_0, k1_0, k2_0, kp0, kp1, kx0, kx1, kx2⟩ := hK
      exact ⟨((hs 1 0 (by decide) (by decide) (by decide +kernel))).trans (k0_0.trans (g3 0).symm), ((hs 138 0 (by decide) (by decide) (by decide +kernel))).trans (k1_0.trans ((rx_same64 (by decide +kernel) (by decide +kernel) hs (i := 0) (by decide) (by decide))).symm), ((hs 274 0 (by decide) (by decide) (by decide +kernel))).trans (k2_0.trans ((rx_same64 (by decide +kernel) (by decide +kernel) hs (i := 6180) (by decide) (by decide))).symm), ((hs 410 0 (by decide) (by decide) (by decide +kernel))).trans (kp0.trans ((hs 484 0 (by decide) (by decide) (by decide +kernel))).symm), ((hs 410 1 (by decide) (by decide) (by decide +kernel))).trans (kp1.trans ((hs 484 1 (by decide) (by decide) (by decide +kernel))).symm), ((hs 0 4 (by decide) (by decide) (by decide +kernel))).trans (kx0.trans ((hs 480 8 (by decide) (by decide) (by decide +kernel))).symm), ((hs 0 7 (by decide) (by decide) (by decide +kernel))).trans (kx1.trans ((hs 480 6 (by decide) (by decide) (by decide +kernel))).symm), (fun i i0 i1 => ((lz_fd hs (p := 411) (n := 400) (c := 1032) (k := 0) (by decide +kernel) (by decide) (by decide +kernel) i0 i1)).trans ((kx2 i i0 i1).trans ((lz_fd hs (p := 485) (n := 400) (c := 1066) (k := 0) (by decide +kernel) (by decide) (by decide +kernel) i0 i1)).symm))⟩
    · exfalso; omega
  · rcases hp with ⟨g10, g2, g3⟩ | ⟨g10, g11, g12, g13, g14, g2, g3⟩ | ⟨g10, g11, g12, g13, g14, g2, g30⟩
    · exfalso; omega
    · exfalso; omega
    · exact ⟨(hy _ (Option.some.inj g2)).trans hv.symm, ((hs 1 0 (by decide) (by decide) (by decide +kernel))).trans (hn0.trans g30.symm), ((hs 138 0 (by decide) (by decide) (by decide +kernel))).trans (k1_0.trans ((rx_same64 (by decide +kernel) (by decide +kernel) hs (i := 0) (by decide) (by decide))).symm), ((hs 274 0 (by decide) (by decide) (by decide +kernel))).trans (k2_0.trans ((rx_same64 (by decide +kernel) (by decide +kernel) hs (i := 6180) (by decide) (by decide))).symm), ((hs 410 0 (by decide) (by decide) (by decide +kernel))).trans (kp0.trans ((hs 484 0 (by decide) (by decide) (by decide +kernel))).symm), ((hs 410 1 (by decide) (by decide) (by decide +kernel))).trans (kp1.trans ((hs 484 1 (by decide) (by decide) (by decide +kernel))).symm), ((hs 0 4 (by decide) (by decide) (by decide +kernel))).trans (kx0.trans ((hs 480 8 (by decide) (by decide) (by decide +kernel))).symm), ((hs 0 7 (by decide) (by decide) (by decide +kernel))).trans (kx1.trans ((hs 480 6 (by decide) (by decide) (by decide +kernel))).symm), (fun i i0 i1 => ((lz_fd hs (p := 411) (n := 400) (c := 1032) (k := 0) (by decide +kernel) (by decide) (by decide +kernel) i0 i1)).trans ((kx2 i i0 i1).trans ((lz_fd hs (p := 485) (n := 400) (c := 1066) (k := 0) (by decide +kernel) (by decide) (by decide +kernel) i0 i1)).symm))⟩
def lzK9 (b1 : Int) (b2 : Int) (b3 : Int) (b4 : Int) (b5 : Int) (v : Value) (S : Nat → Int → Int) : Prop := (380 < S 480 8 ∧ v = .int (Int32.ofInt (-1)) ∧ lzK S) ∨ (S 480 8 ≤ 380 ∧ v = .int (Int32.ofInt (S 480 8 + 20)) ∧ S 0 4 = S 480 8 + 20 ∧ (∀ i : Int, 0 ≤ i → i < 400 → S 411 i = rzFd (S 480 8) b1 b2 b3 b4 b5 (S 485 i) i) ∧ S 1 0 = S 482 0 ∧ S 138 0 = S 483 0 ∧ S 274 0 = S 483 6180 ∧ S 410 0 = S 484 0 ∧ S 410 1 = S 484 1 ∧ S 0 7 = S 480 6)
set_option maxHeartbeats 2000000 in
theorem lz_m9a (h : bx_ConP rxG rxNW rxAO PX Dg rxL rxX vwCl (lz_A s) ad l rxM231 rxC231 (fun _ _ => True) rxPSFEDB) : lz_M l s Dg PX ad rxM231 rxC231.2.2.2.1 0 (lz_xs xs 5 a) lzK (fun v => ∃ x : Int32, v = .int x) (lzK9 (xs a).toInt (xs (a + 1)).toInt (xs (a + 2)).toInt (xs (a + 3)).toInt (xs (a + 4)).toInt) := by
  refine lz_conPM (q := 0) (tc := 0) h ⟨_, rfl⟩ ⟨_, rfl⟩ rfl (fun _ _ _ => trivial) fun S0 S y hk hI0 hI hs hp => ⟨⟨_, rfl⟩, ?_⟩
  obtain ⟨b1, b2, b3, b4, b5, e1, hp⟩ := hp
  have eb1 : (xs a).toInt = b1 := Option.some.inj (congrArg (fun l : List Int => l[1]?) e1)
  have eb2 : (xs (a + 1)).toInt = b2 := Option.some.inj (congrArg (fun l : List Int => l[2]?) e1)
  have eb3 : (xs (a + 2)).toInt = b3 := Option.some.inj (congrArg (fun l : List Int => l[3]?) e1)
  have eb4 : (xs (a + 3)).toInt = b4 := Option.some.inj (congrArg (fun l : List Int => l[4]?) e1)
  have eb5 : (xs (a + 4)).toInt = b5 := Option.some.inj (congrArg (fun l : List Int => l[5]?) e1)
  rw [eb1]
  rw [eb2]
  rw [eb3]
  rw [eb4]
  rw [eb5]
  have hK := hk
  obtain ⟨k0_0, k1_0, k2_0, kp0, kp1, kx0, kx1, kx2⟩ := hk
  have hR0 : S 480 8 = S0 480 8 := (hs 480 8 (by decide) (by decide) (by decide +kernel))
  have hR1 : (∀ i : Int, 0 ≤ i → i < 400 → S 485 i = S0 485 i) := (fun i i0 i1 => (lz_fd hs (p := 485) (n := 400) (c := 1066) (k := 0) (by decide +kernel) (by decide) (by decide +kernel) i0 i1))
  rcases hp with ⟨g10, g2, g3⟩ | ⟨g10, g2, g30, g31⟩
  · refine Or.inl (⟨by omega, ?_, ?_⟩)
    · exact congrArg (fun z => Value.int (Int32.ofInt z)) (Option.some.inj g2)
    · rw [g3]; exact hK
  · refine Or.inr (⟨by omega, ?_, g30.trans (by first | rfl | (rw [kx0, hR0]) | first | rfl | omega | (rw [kx0, hR0])), (fun i i0 i1 => (g31 i i0 i1).trans (by first | rfl | (rw [kx2 i i0 i1, hR1 i i0 i1]; done) | (simp only [kx0, hR0, (kx2 i i0 i1), hR1 i i0 i1]))), ((hs 1 0 (by decide) (by decide) (by decide +kernel))).trans (k0_0.trans ((hs 482 0 (by decide) (by decide) (by decide +kernel))).symm), ((hs 138 0 (by decide) (by decide) (by decide +kernel))).trans (k1_0.trans ((rx_same64 (by decide +kernel) (by decide +kernel) hs (i := 0) (by decide) (by decide))).symm), ((hs 274 0 (by decide) (by decide) (by decide +kernel))).trans (k2_0.trans ((rx_same64 (by decide +kernel) (by decide +kernel) hs (i := 6180) (by decide) (by decide))).symm), ((hs 410 0 (by decide) (by decide) (by decide +kernel))).trans (kp0.trans ((hs 484 0 (by decide) (by decide) (by decide +kernel))).symm), ((hs 410 1 (by decide) (by decide) (by decide +kernel))).trans (kp1.trans ((hs 484 1 (by decide) (by decide) (by decide +kernel))).symm), ((hs 0 7 (by decide) (by decide) (by decide +kernel))).trans (kx1.trans ((hs 480 6 (by decide) (by decide) (by decide +kernel))).symm)⟩)
    · exact congrArg (fun z => Value.int (Int32.ofInt z)) ((Option.some.inj g2).trans (by first | rfl | omega | (rw [kx0, hR0])))
set_option maxHeartbeats 2000000 in
theorem lz_m9b {v : Value} (h : bx_ConP rxG rxNW rxAO PX Dg rxL rxX vwCl (lz_A s) ad l rxM232 rxC232 (fun _ _ => True) rxPSFERB) : lz_M l s Dg PX ad rxM232 rxC232.2.2.2.1 480 (lz_xs xs 5 a) (lzK9 (xs a).toInt (xs (a + 1)).toInt (xs (a + 2)).toInt (xs (a + 3)).toInt (xs (a + 4)).toInt v) (fun v' => v' = v) (fun _ => lzK) := by
  refine lz_conPM (q := 480) (tc := 0) h ⟨_, rfl⟩ ⟨_, rfl⟩ rfl (fun _ _ _ => trivial) fun S0 S y hk hI0 hI hs hp => ?_
  obtain ⟨b1, b2, b3, b4, b5, e1, hp⟩ := hp
  have eb1 : (xs a).toInt = b1 := Option.some.inj (congrArg (fun l : List Int => l[1]?) e1)
  have eb2 : (xs (a + 1)).toInt = b2 := Option.some.inj (congrArg (fun l : List Int => l[2]?) e1)
  have eb3 : (xs (a + 2)).toInt = b3 := Option.some.inj (congrArg (fun l : List Int => l[3]?) e1)
  have eb4 : (xs (a + 3)).toInt = b4 := Option.some.inj (congrArg (fun l : List Int => l[4]?) e1)
  have eb5 : (xs (a + 4)).toInt = b5 := Option.some.inj (congrArg (fun l : List Int => l[5]?) e1)
  rw [eb1] at hk
  rw [eb2] at hk
  rw [eb3] at hk
  rw [eb4] at hk
  rw [eb5] at hk
  have hy : ∀ z : Int, y = z → bx_fv ad 0 y = Value.int (Int32.ofInt z) := fun z q => by rw [q]; rfl
  rcases hk with ⟨q10, hv, hK⟩ | ⟨q10, hv, hn0, hn1, k0_0, k1_0, k2_0, kp0, kp1, kx1⟩
  · rcases hp with ⟨g10, g2, g3, g40, g41⟩ | ⟨g10, g2, g30, g31⟩
    · refine ⟨(hy _ (Option.some.inj g2)).trans hv.symm, ?_⟩
      obtain ⟨k0_0, k1_0, k2_0, kp0, kp1, kx0, kx1, kx2⟩ := hK
      exact ⟨((hs 1 0 (by decide) (by decide) (by decide +kernel))).trans (k0_0.trans (g3 0).symm), ((hs 138 0 (by decide) (by decide) (by decide +kernel))).trans (k1_0.trans ((rx_same64 (by decide +kernel) (by decide +kernel) hs (i := 0) (by decide) (by decide))).symm), ((hs 274 0 (by decide) (by decide) (by decide +kernel))).trans (k2_0.trans ((rx_same64 (by decide +kernel) (by decide +kernel) hs (i := 6180) (by decide) (by decide))).symm), ((hs 410 0 (by decide) (by decide) (by decide +kernel))).trans (kp0.trans ((hs 484 0 (by decide) (by decide) (by decide +kernel))).symm), ((hs 410 1 (by decide) (by decide) (by decide +kernel))).trans (kp1.trans ((hs 484 1 (by decide) (by decide) (by decide +kernel))).symm), ((hs 0 4 (by decide) (by decide) (by decide +kernel))).trans (kx0.trans (g40).symm), ((hs 0 7 (by decide) (by decide) (by decide +kernel))).trans (kx1.trans ((hs 480 6 (by decide) (by decide) (by decide +kernel))).symm), (fun i i0 i1 => ((lz_fd hs (p := 411) (n := 400) (c := 1032) (k := 0) (by decide +kernel) (by decide) (by decide +kernel) i0 i1)).trans ((kx2 i i0 i1).trans ((g41 i i0 i1)).symm))⟩
    · exfalso; omega
  · rcases hp with ⟨g10, g2, g3, g40, g41⟩ | ⟨g10, g2, g30, g31⟩
    · exfalso; omega
    · exact ⟨(hy _ (Option.some.inj g2)).trans hv.symm, ((hs 1 0 (by decide) (by decide) (by decide +kernel))).trans (k0_0.trans ((hs 482 0 (by decide) (by decide) (by decide +kernel))).symm), ((hs 138 0 (by decide) (by decide) (by decide +kernel))).trans (k1_0.trans ((rx_same64 (by decide +kernel) (by decide +kernel) hs (i := 0) (by decide) (by decide))).symm), ((hs 274 0 (by decide) (by decide) (by decide +kernel))).trans (k2_0.trans ((rx_same64 (by decide +kernel) (by decide +kernel) hs (i := 6180) (by decide) (by decide))).symm), ((hs 410 0 (by decide) (by decide) (by decide +kernel))).trans (kp0.trans ((hs 484 0 (by decide) (by decide) (by decide +kernel))).symm), ((hs 410 1 (by decide) (by decide) (by decide +kernel))).trans (kp1.trans ((hs 484 1 (by decide) (by decide) (by decide +kernel))).symm), ((hs 0 4 (by decide) (by decide) (by decide +kernel))).trans (hn0.trans g30.symm), ((hs 0 7 (by decide) (by decide) (by decide +kernel))).trans (kx1.trans ((hs 480 6 (by decide) (by decide) (by decide +kernel))).symm), (fun i i0 i1 => ((lz_fd hs (p := 411) (n := 400) (c := 1032) (k := 0) (by decide +kernel) (by decide) (by decide +kernel) i0 i1)).trans ((hn1 i i0 i1).trans (g31 i i0 i1).symm))⟩
def lzK10 (m : Int) (v : Value) (S : Nat → Int → Int) : Prop := ((m < 0 ∨ S 480 8 < m) ∧ v = .int (Int32.ofInt (-1)) ∧ lzK S) ∨ (0 ≤ m ∧ m ≤ S 480 8 ∧ v = .int (Int32.ofInt (m)) ∧ S 0 4 = m ∧ S 1 0 = S 482 0 ∧ S 138 0 = S 483 0 ∧ S 274 0 = S 483 6180 ∧ S 410 0 = S 484 0 ∧ S 410 1 = S 484 1 ∧ S 0 7 = S 480 6 ∧ (∀ i : Int, 0 ≤ i → i < 400 → S 411 i = S 485 i))
set_option maxHeartbeats 2000000 in
theorem lz_m10a (h : bx_ConP rxG rxNW rxAO PX Dg rxL rxX vwCl (lz_A s) ad l rxM233 rxC233 (fun _ _ => True) rxPS233) : lz_M l s Dg PX ad rxM233 rxC233.2.2.2.1 0 (lz_xs xs 1 a) lzK (fun v => ∃ x : Int32, v = .int x) (lzK10 (xs a).toInt) := by
  refine lz_conPM (q := 0) (tc := 0) h ⟨_, rfl⟩ ⟨_, rfl⟩ rfl (fun _ _ _ => trivial) fun S0 S y hk hI0 hI hs hp => ⟨⟨_, rfl⟩, ?_⟩
  obtain ⟨m, e1, hp⟩ := hp
  have em : (xs a).toInt = m := Option.some.inj (congrArg (fun l : List Int => l[1]?) e1)
  rw [em]
  have hK := hk
  obtain ⟨k0_0, k1_0, k2_0, kp0, kp1, kx0, kx1, kx2⟩ := hk
  have hR0 : S 480 8 = S0 480 8 := (hs 480 8 (by decide) (by decide) (by decide +kernel))
  rcases hp with ⟨g10, g2, g3⟩ | ⟨g10, g11, g2, g30⟩
  · refine Or.inl (⟨by omega, ?_, ?_⟩)
    · exact congrArg (fun z => Value.int (Int32.ofInt z)) (Option.some.inj g2)
    · rw [g3]; exact hK
  · refine Or.inr (⟨by omega, by omega, ?_, g30.trans (by first | rfl | (rw [kx0, hR0]) | first | rfl | omega | (rw [kx0, hR0])), ((hs 1 0 (by decide) (by decide) (by decide +kernel))).trans (k0_0.trans ((hs 482 0 (by decide) (by decide) (by decide +kernel))).symm), ((hs 138 0 (by decide) (by decide) (by decide +kernel))).trans (k1_0.trans ((rx_same64 (by decide +kernel) (by decide +kernel) hs (i := 0) (by decide) (by decide))).symm), ((hs 274 0 (by decide) (by decide) (by decide +kernel))).trans (k2_0.trans ((rx_same64 (by decide +kernel) (by decide +kernel) hs (i := 6180) (by decide) (by decide))).symm), ((hs 410 0 (by decide) (by decide) (by decide +kernel))).trans (kp0.trans ((hs 484 0 (by decide) (by decide) (by decide +kernel))).symm), ((hs 410 1 (by decide) (by decide) (by decide +kernel))).trans (kp1.trans ((hs 484 1 (by decide) (by decide) (by decide +kernel))).symm), ((hs 0 7 (by decide) (by decide) (by decide +kernel))).trans (kx1.trans ((hs 480 6 (by decide) (by decide) (by decide +kernel))).symm), (fun i i0 i1 => ((lz_fd hs (p := 411) (n := 400) (c := 1032) (k := 0) (by decide +kernel) (by decide) (by decide +kernel) i0 i1)).trans ((kx2 i i0 i1).trans ((lz_fd hs (p := 485) (n := 400) (c := 1066) (k := 0) (by decide +kernel) (by decide) (by decide +kernel) i0 i1)).symm))⟩)
    · exact congrArg (fun z => Value.int (Int32.ofInt z)) ((Option.some.inj g2).trans (by first | rfl | omega | (rw [kx0, hR0])))
set_option maxHeartbeats 2000000 in
theorem lz_m10b {v : Value} (h : bx_ConP rxG rxNW rxAO PX Dg rxL rxX vwCl (lz_A s) ad l rxM234 rxC234 (fun _ _ => True) rxPS234) : lz_M l s Dg PX ad rxM234 rxC234.2.2.2.1 480 (lz_xs xs 1 a) (lzK10 (xs a).toInt v) (fun v' => v' = v) (fun _ => lzK) := by
  refine lz_conPM (q := 480) (tc := 0) h ⟨_, rfl⟩ ⟨_, rfl⟩ rfl (fun _ _ _ => trivial) fun S0 S y hk hI0 hI hs hp => ?_
  obtain ⟨m, e1, hp⟩ := hp
  have em : (xs a).toInt = m := Option.some.inj (congrArg (fun l : List Int => l[1]?) e1)
  rw [em] at hk
  have hy : ∀ z : Int, y = z → bx_fv ad 0 y = Value.int (Int32.ofInt z) := fun z q => by rw [q]; rfl
  rcases hk with ⟨q10, hv, hK⟩ | ⟨q10, q11, hv, hn0, k0_0, k1_0, k2_0, kp0, kp1, kx1, kx2⟩
  · rcases hp with ⟨g10, g2, g3, g40⟩ | ⟨g10, g11, g2, g30⟩
    · refine ⟨(hy _ (Option.some.inj g2)).trans hv.symm, ?_⟩
      obtain ⟨k0_0, k1_0, k2_0, kp0, kp1, kx0, kx1, kx2⟩ := hK
      exact ⟨((hs 1 0 (by decide) (by decide) (by decide +kernel))).trans (k0_0.trans (g3 0).symm), ((hs 138 0 (by decide) (by decide) (by decide +kernel))).trans (k1_0.trans ((rx_same64 (by decide +kernel) (by decide +kernel) hs (i := 0) (by decide) (by decide))).symm), ((hs 274 0 (by decide) (by decide) (by decide +kernel))).trans (k2_0.trans ((rx_same64 (by decide +kernel) (by decide +kernel) hs (i := 6180) (by decide) (by decide))).symm), ((hs 410 0 (by decide) (by decide) (by decide +kernel))).trans (kp0.trans ((hs 484 0 (by decide) (by decide) (by decide +kernel))).symm), ((hs 410 1 (by decide) (by decide) (by decide +kernel))).trans (kp1.trans ((hs 484 1 (by decide) (by decide) (by decide +kernel))).symm), ((hs 0 4 (by decide) (by decide) (by decide +kernel))).trans (kx0.trans (g40).symm), ((hs 0 7 (by decide) (by decide) (by decide +kernel))).trans (kx1.trans ((hs 480 6 (by decide) (by decide) (by decide +kernel))).symm), (fun i i0 i1 => ((lz_fd hs (p := 411) (n := 400) (c := 1032) (k := 0) (by decide +kernel) (by decide) (by decide +kernel) i0 i1)).trans ((kx2 i i0 i1).trans ((lz_fd hs (p := 485) (n := 400) (c := 1066) (k := 0) (by decide +kernel) (by decide) (by decide +kernel) i0 i1)).symm))⟩
    · exfalso; omega
  · rcases hp with ⟨g10, g2, g3, g40⟩ | ⟨g10, g11, g2, g30⟩
    · exfalso; omega
    · exact ⟨(hy _ (Option.some.inj g2)).trans hv.symm, ((hs 1 0 (by decide) (by decide) (by decide +kernel))).trans (k0_0.trans ((hs 482 0 (by decide) (by decide) (by decide +kernel))).symm), ((hs 138 0 (by decide) (by decide) (by decide +kernel))).trans (k1_0.trans ((rx_same64 (by decide +kernel) (by decide +kernel) hs (i := 0) (by decide) (by decide))).symm), ((hs 274 0 (by decide) (by decide) (by decide +kernel))).trans (k2_0.trans ((rx_same64 (by decide +kernel) (by decide +kernel) hs (i := 6180) (by decide) (by decide))).symm), ((hs 410 0 (by decide) (by decide) (by decide +kernel))).trans (kp0.trans ((hs 484 0 (by decide) (by decide) (by decide +kernel))).symm), ((hs 410 1 (by decide) (by decide) (by decide +kernel))).trans (kp1.trans ((hs 484 1 (by decide) (by decide) (by decide +kernel))).symm), ((hs 0 4 (by decide) (by decide) (by decide +kernel))).trans (hn0.trans g30.symm), ((hs 0 7 (by decide) (by decide) (by decide +kernel))).trans (kx1.trans ((hs 480 6 (by decide) (by decide) (by decide +kernel))).symm), (fun i i0 i1 => ((lz_fd hs (p := 411) (n := 400) (c := 1032) (k := 0) (by decide +kernel) (by decide) (by decide +kernel) i0 i1)).trans ((kx2 i i0 i1).trans ((lz_fd hs (p := 485) (n := 400) (c := 1066) (k := 0) (by decide +kernel) (by decide) (by decide +kernel) i0 i1)).symm))⟩
def lzK11 (pa : Int) (v : Value) (S : Nat → Int → Int) : Prop := ((pa < 0 ∨ S 482 0 ≤ pa) ∧ v = .int (Int32.ofInt (-2)) ∧ lzK S) ∨ (0 ≤ pa ∧ pa < S 482 0 ∧ S 480 8 = 0 ∧ v = .int (Int32.ofInt (-6)) ∧ lzK S) ∨ (0 ≤ pa ∧ pa < S 482 0 ∧ 0 < S 480 8 ∧ S 480 8 ≤ 400 ∧ v = .int (Int32.ofInt (rzRC S 480 8 485)) ∧ S 0 4 = 0 ∧ S 0 7 = rzPR S 480 8 485 ∧ S 1 0 = S 482 0 ∧ S 138 0 = S 483 0 ∧ S 274 0 = S 483 6180 ∧ S 410 0 = S 484 0 ∧ S 410 1 = S 484 1 ∧ (∀ i : Int, 0 ≤ i → i < 400 → S 411 i = S 485 i))
set_option maxHeartbeats 2000000 in
theorem lz_m11a (h : bx_ConP rxG rxNW rxAO PX Dg rxL rxX vwCl (lz_A s) ad l rxM235 rxC235 (fun _ _ => True) rxPSROWB) : lz_M l s Dg PX ad rxM235 rxC235.2.2.2.1 0 (lz_xs xs 1 a) lzK (fun v => ∃ x : Int32, v = .int x) (lzK11 (xs a).toInt) := by
  refine lz_conPM (q := 0) (tc := 0) h ⟨_, rfl⟩ ⟨_, rfl⟩ rfl (fun _ _ _ => trivial) fun S0 S y hk hI0 hI hs hp => ⟨⟨_, rfl⟩, ?_⟩
  obtain ⟨pa, e1, hp⟩ := hp
  have epa : (xs a).toInt = pa := Option.some.inj (congrArg (fun l : List Int => l[1]?) e1)
  rw [epa]
  have hK := hk
  obtain ⟨k0_0, k1_0, k2_0, kp0, kp1, kx0, kx1, kx2⟩ := hk
  have hR0 : S 480 8 = S0 480 8 := (hs 480 8 (by decide) (by decide) (by decide +kernel))
  have hR1 : S 480 6 = S0 480 6 := (hs 480 6 (by decide) (by decide) (by decide +kernel))
  have hR2 : S 482 0 = S0 482 0 := (hs 482 0 (by decide) (by decide) (by decide +kernel))
  have hR3 : (∀ i : Int, 0 ≤ i → i < 400 → S 485 i = S0 485 i) := (fun i i0 i1 => (lz_fd hs (p := 485) (n := 400) (c := 1066) (k := 0) (by decide +kernel) (by decide) (by decide +kernel) i0 i1))
  rcases hp with ⟨g10, g2, g3⟩ | ⟨g10, g11, g12, g2, g3⟩ | ⟨g10, g11, g12, g13, g2, g30, g31⟩
  · refine Or.inl (⟨by omega, ?_, ?_⟩)
    · exact congrArg (fun z => Value.int (Int32.ofInt z)) (Option.some.inj g2)
    · exact lzK_keep (by decide +kernel) hK g3
  · refine Or.inr (Or.inl (⟨by omega, by omega, by omega, ?_, ?_⟩))
    · exact congrArg (fun z => Value.int (Int32.ofInt z)) (Option.some.inj g2)
    · exact lzK_keep (by decide +kernel) hK g3
  · refine Or.inr (Or.inr (⟨by omega, by omega, by omega, by omega, ?_, g30.trans (by first | rfl | (rw [kx0, hR0]) | first | rfl | omega | (rw [kx0, hR0, kx1, hR1, k0_0, hR2])), g31.trans (rzPR_cg (S := S0) (S' := S) (p := 0) (q := 480) (t := 411) (u := 485) (f := 4) (g := 8) (kx0.trans hR0.symm) g13 (fun i i0 i1 => (kx2 i i0 i1).trans (hR3 i i0 i1).symm)), ((hs 1 0 (by decide) (by decide) (by decide +kernel))).trans (k0_0.trans ((hs 482 0 (by decide) (by decide) (by decide +kernel))).symm), ((hs 138 0 (by decide) (by decide) (by decide +kernel))).trans (k1_0.trans ((rx_same64 (by decide +kernel) (by decide +kernel) hs (i := 0) (by decide) (by decide))).symm), ((hs 274 0 (by decide) (by decide) (by decide +kernel))).trans (k2_0.trans ((rx_same64 (by decide +kernel) (by decide +kernel) hs (i := 6180) (by decide) (by decide))).symm), ((hs 410 0 (by decide) (by decide) (by decide +kernel))).trans (kp0.trans ((hs 484 0 (by decide) (by decide) (by decide +kernel))).symm), ((hs 410 1 (by decide) (by decide) (by decide +kernel))).trans (kp1.trans ((hs 484 1 (by decide) (by decide) (by decide +kernel))).symm), (fun i i0 i1 => ((lz_fd hs (p := 411) (n := 400) (c := 1032) (k := 0) (by decide +kernel) (by decide) (by decide +kernel) i0 i1)).trans ((kx2 i i0 i1).trans ((lz_fd hs (p := 485) (n := 400) (c := 1066) (k := 0) (by decide +kernel) (by decide) (by decide +kernel) i0 i1)).symm))⟩))
    · exact congrArg (fun z => Value.int (Int32.ofInt z)) ((Option.some.inj g2).trans (rzRC_cg (S := S0) (S' := S) (p := 0) (q := 480) (t := 411) (u := 485) (f := 4) (g := 8) (kx0.trans hR0.symm) g13 (fun i i0 i1 => (kx2 i i0 i1).trans (hR3 i i0 i1).symm)))
set_option maxHeartbeats 2000000 in
theorem lz_m11b {v : Value} (h : bx_ConP rxG rxNW rxAO PX Dg rxL rxX vwCl (lz_A s) ad l rxM236 rxC236 (fun _ _ => True) rxPSROWR) : lz_M l s Dg PX ad rxM236 rxC236.2.2.2.1 480 (lz_xs xs 1 a) (lzK11 (xs a).toInt v) (fun v' => v' = v) (fun _ => lzK) := by
  refine lz_conPM (q := 480) (tc := 0) h ⟨_, rfl⟩ ⟨_, rfl⟩ rfl (fun _ _ _ => trivial) fun S0 S y hk hI0 hI hs hp => ?_
  obtain ⟨pa, e1, hp⟩ := hp
  have epa : (xs a).toInt = pa := Option.some.inj (congrArg (fun l : List Int => l[1]?) e1)
  rw [epa] at hk
  have hy : ∀ z : Int, y = z → bx_fv ad 0 y = Value.int (Int32.ofInt z) := fun z q => by rw [q]; rfl
  rcases hk with ⟨q10, hv, hK⟩ | ⟨q10, q11, q12, hv, hK⟩ | ⟨q10, q11, q12, q13, hv, hn0, hn1, k0_0, k1_0, k2_0, kp0, kp1, kx2⟩
  · rcases hp with ⟨g10, g2, g3, g40, g41⟩ | ⟨g10, g11, g12, g2, g3, g40, g41⟩ | ⟨g10, g11, g12, g13, g2, g30, g31⟩
    · refine ⟨(hy _ (Option.some.inj g2)).trans hv.symm, ?_⟩
      obtain ⟨k0_0, k1_0, k2_0, kp0, kp1, kx0, kx1, kx2⟩ := hK
      exact ⟨((hs 1 0 (by decide) (by decide) (by decide +kernel))).trans (k0_0.trans (g3 0).symm), ((hs 138 0 (by decide) (by decide) (by decide +kernel))).trans (k1_0.trans ((rx_same64 (by decide +kernel) (by decide +kernel) hs (i := 0) (by decide) (by decide))).symm), ((hs 274 0 (by decide) (by decide) (by decide +kernel))).trans (k2_0.trans ((rx_same64 (by decide +kernel) (by decide +kernel) hs (i := 6180) (by decide) (by decide))).symm), ((hs 410 0 (by decide) (by decide) (by decide +kernel))).trans (kp0.trans ((hs 484 0 (by decide) (by decide) (by decide +kernel))).symm), ((hs 410 1 (by decide) (by decide) (by decide +kernel))).trans (kp1.trans ((hs 484 1 (by decide) (by decide) (by decide +kernel))).symm), ((hs 0 4 (by decide) (by decide) (by decide +kernel))).trans (kx0.trans (g40).symm), ((hs 0 7 (by decide) (by decide) (by decide +kernel))).trans (kx1.trans (g41).symm), (fun i i0 i1 => ((lz_fd hs (p := 411) (n := 400) (c := 1032) (k := 0) (by decide +kernel) (by decide) (by decide +kernel) i0 i1)).trans ((kx2 i i0 i1).trans ((lz_fd hs (p := 485) (n := 400) (c := 1066) (k := 0) (by decide +kernel) (by decide) (by decide +kernel) i0 i1)).symm))⟩
    · exfalso; omega
    · exfalso; omega
  · rcases hp with ⟨g10, g2, g3, g40, g41⟩ | ⟨g10, g11, g12, g2, g3, g40, g41⟩ | ⟨g10, g11, g12, g13, g2, g30, g31⟩
    · exfalso; omega
    · refine ⟨(hy _ (Option.some.inj g2)).trans hv.symm, ?_⟩
      obtain ⟨k0_0, k1_0, k2_0, kp0, kp1, kx0, kx1, kx2⟩ := hK
      exact ⟨((hs 1 0 (by decide) (by decide) (by decide +kernel))).trans (k0_0.trans (g3 0).symm), ((hs 138 0 (by decide) (by decide) (by decide +kernel))).trans (k1_0.trans ((rx_same64 (by decide +kernel) (by decide +kernel) hs (i := 0) (by decide) (by decide))).symm), ((hs 274 0 (by decide) (by decide) (by decide +kernel))).trans (k2_0.trans ((rx_same64 (by decide +kernel) (by decide +kernel) hs (i := 6180) (by decide) (by decide))).symm), ((hs 410 0 (by decide) (by decide) (by decide +kernel))).trans (kp0.trans ((hs 484 0 (by decide) (by decide) (by decide +kernel))).symm), ((hs 410 1 (by decide) (by decide) (by decide +kernel))).trans (kp1.trans ((hs 484 1 (by decide) (by decide) (by decide +kernel))).symm), ((hs 0 4 (by decide) (by decide) (by decide +kernel))).trans (kx0.trans (g40).symm), ((hs 0 7 (by decide) (by decide) (by decide +kernel))).trans (kx1.trans (g41).symm), (fun i i0 i1 => ((lz_fd hs (p := 411) (n := 400) (c := 1032) (k := 0) (by decide +kernel) (by decide) (by decide +kernel) i0 i1)).trans ((kx2 i i0 i1).trans ((lz_fd hs (p := 485) (n := 400) (c := 1066) (k := 0) (by decide +kernel) (by decide) (by decide +kernel) i0 i1)).symm))⟩
    · exfalso; omega
  · rcases hp with ⟨g10, g2, g3, g40, g41⟩ | ⟨g10, g11, g12, g2, g3, g40, g41⟩ | ⟨g10, g11, g12, g13, g2, g30, g31⟩
    · exfalso; omega
    · exfalso; omega
    · exact ⟨(hy _ (Option.some.inj g2)).trans hv.symm, ((hs 1 0 (by decide) (by decide) (by decide +kernel))).trans (k0_0.trans ((hs 482 0 (by decide) (by decide) (by decide +kernel))).symm), ((hs 138 0 (by decide) (by decide) (by decide +kernel))).trans (k1_0.trans ((rx_same64 (by decide +kernel) (by decide +kernel) hs (i := 0) (by decide) (by decide))).symm), ((hs 274 0 (by decide) (by decide) (by decide +kernel))).trans (k2_0.trans ((rx_same64 (by decide +kernel) (by decide +kernel) hs (i := 6180) (by decide) (by decide))).symm), ((hs 410 0 (by decide) (by decide) (by decide +kernel))).trans (kp0.trans ((hs 484 0 (by decide) (by decide) (by decide +kernel))).symm), ((hs 410 1 (by decide) (by decide) (by decide +kernel))).trans (kp1.trans ((hs 484 1 (by decide) (by decide) (by decide +kernel))).symm), ((hs 0 4 (by decide) (by decide) (by decide +kernel))).trans (hn0.trans g30.symm), ((hs 0 7 (by decide) (by decide) (by decide +kernel))).trans (hn1.trans g31.symm), (fun i i0 i1 => ((lz_fd hs (p := 411) (n := 400) (c := 1032) (k := 0) (by decide +kernel) (by decide) (by decide +kernel) i0 i1)).trans ((kx2 i i0 i1).trans ((lz_fd hs (p := 485) (n := 400) (c := 1066) (k := 0) (by decide +kernel) (by decide) (by decide +kernel) i0 i1)).symm))⟩
def lzK12  (v : Value) (S : Nat → Int → Int) : Prop := ((0 : Int) ≤ 0 ∧ v = .int (Int32.ofInt (S 480 6)) ∧ lzK S)
set_option maxHeartbeats 2000000 in
theorem lz_m12a (h : bx_ConP rxG rxNW rxAO PX Dg rxL rxX vwCl (lz_A s) ad l rxM237 rxC237 (fun _ _ => True) rxPSPRD) : lz_M l s Dg PX ad rxM237 rxC237.2.2.2.1 0 (lz_xs xs 0 a) lzK (fun v => ∃ x : Int32, v = .int x) (lzK12) := by
  refine lz_conPM (q := 0) (tc := 0) h ⟨_, rfl⟩ ⟨_, rfl⟩ rfl (fun _ _ _ => trivial) fun S0 S y hk hI0 hI hs hp => ⟨⟨_, rfl⟩, ?_⟩
  obtain ⟨e1, hp⟩ := hp
  have _ := e1
  have hK := hk
  obtain ⟨k0_0, k1_0, k2_0, kp0, kp1, kx0, kx1, kx2⟩ := hk
  have hR0 : S 480 6 = S0 480 6 := (hs 480 6 (by decide) (by decide) (by decide +kernel))
  rcases hp with ⟨g10, g2, g3⟩
  · refine ⟨by omega, ?_, ?_⟩
    · exact congrArg (fun z => Value.int (Int32.ofInt z)) ((Option.some.inj g2).trans (by first | rfl | omega | (rw [kx1, hR0])))
    · rw [g3]; exact hK
set_option maxHeartbeats 2000000 in
theorem lz_m12b {v : Value} (h : bx_ConP rxG rxNW rxAO PX Dg rxL rxX vwCl (lz_A s) ad l rxM238 rxC238 (fun _ _ => True) rxPSPRR) : lz_M l s Dg PX ad rxM238 rxC238.2.2.2.1 480 (lz_xs xs 0 a) (lzK12 v) (fun v' => v' = v) (fun _ => lzK) := by
  refine lz_conPM (q := 480) (tc := 0) h ⟨_, rfl⟩ ⟨_, rfl⟩ rfl (fun _ _ _ => trivial) fun S0 S y hk hI0 hI hs hp => ?_
  obtain ⟨e1, hp⟩ := hp
  have hy : ∀ z : Int, y = z → bx_fv ad 0 y = Value.int (Int32.ofInt z) := fun z q => by rw [q]; rfl
  rcases hk with ⟨q10, hv, hK⟩
  · rcases hp with ⟨g10, g2, g3⟩
    · refine ⟨(hy _ (Option.some.inj g2)).trans hv.symm, ?_⟩
      obtain ⟨k0_0, k1_0, k2_0, kp0, kp1, kx0, kx1, kx2⟩ := hK
      exact ⟨((hs 1 0 (by decide) (by decide) (by decide +kernel))).trans (k0_0.trans (g3 0).symm), ((hs 138 0 (by decide) (by decide) (by decide +kernel))).trans (k1_0.trans ((rx_same64 (by decide +kernel) (by decide +kernel) hs (i := 0) (by decide) (by decide))).symm), ((hs 274 0 (by decide) (by decide) (by decide +kernel))).trans (k2_0.trans ((rx_same64 (by decide +kernel) (by decide +kernel) hs (i := 6180) (by decide) (by decide))).symm), ((hs 410 0 (by decide) (by decide) (by decide +kernel))).trans (kp0.trans ((hs 484 0 (by decide) (by decide) (by decide +kernel))).symm), ((hs 410 1 (by decide) (by decide) (by decide +kernel))).trans (kp1.trans ((hs 484 1 (by decide) (by decide) (by decide +kernel))).symm), ((hs 0 4 (by decide) (by decide) (by decide +kernel))).trans (kx0.trans ((hs 480 8 (by decide) (by decide) (by decide +kernel))).symm), ((hs 0 7 (by decide) (by decide) (by decide +kernel))).trans (kx1.trans ((hs 480 6 (by decide) (by decide) (by decide +kernel))).symm), (fun i i0 i1 => ((lz_fd hs (p := 411) (n := 400) (c := 1032) (k := 0) (by decide +kernel) (by decide) (by decide +kernel) i0 i1)).trans ((kx2 i i0 i1).trans ((lz_fd hs (p := 485) (n := 400) (c := 1066) (k := 0) (by decide +kernel) (by decide) (by decide +kernel) i0 i1)).symm))⟩
def lzK13 (pa : Int) (v : Value) (S : Nat → Int → Int) : Prop := ((pa < 0 ∨ S 482 0 ≤ pa) ∧ True ∧ S 0 4 = S 480 8 ∧ S 1 0 = S 482 0 ∧ S 138 0 = S 483 0 ∧ S 274 0 = S 483 6180 ∧ S 410 0 = S 484 0 ∧ S 410 1 = S 484 1 ∧ S 0 7 = S 480 6 ∧ (∀ i : Int, 0 ≤ i → i < 400 → S 411 i = S 485 i)) ∨ (0 ≤ pa ∧ pa < S 482 0 ∧ True ∧ S 0 4 = 0 ∧ S 1 0 = S 482 0 ∧ S 138 0 = S 483 0 ∧ S 274 0 = S 483 6180 ∧ S 410 0 = S 484 0 ∧ S 410 1 = S 484 1 ∧ S 0 7 = S 480 6 ∧ (∀ i : Int, 0 ≤ i → i < 400 → S 411 i = S 485 i))
set_option maxHeartbeats 2000000 in
theorem lz_m13a (h : bx_ConP rxG rxNW rxAO PX Dg rxL rxX vwCl (lz_A s) ad l rxM239 rxC239 (fun _ _ => True) rxPS239) : lz_M l s Dg PX ad rxM239 rxC239.2.2.2.1 0 (lz_xs xs 1 a) lzK (fun v => ∃ x : Int32, v = .int x) (lzK13 (xs a).toInt) := by
  refine lz_conPM (q := 0) (tc := 0) h ⟨_, rfl⟩ ⟨_, rfl⟩ rfl (fun _ _ _ => trivial) fun S0 S y hk hI0 hI hs hp => ⟨⟨_, rfl⟩, ?_⟩
  obtain ⟨pa, e1, hp⟩ := hp
  have epa : (xs a).toInt = pa := Option.some.inj (congrArg (fun l : List Int => l[1]?) e1)
  rw [epa]
  have hK := hk
  obtain ⟨k0_0, k1_0, k2_0, kp0, kp1, kx0, kx1, kx2⟩ := hk
  have hR0 : S 480 8 = S0 480 8 := (hs 480 8 (by decide) (by decide) (by decide +kernel))
  have hR1 : S 482 0 = S0 482 0 := (hs 482 0 (by decide) (by decide) (by decide +kernel))
  rcases hp with ⟨g10, g2, g30⟩ | ⟨g10, g11, g2, g30⟩
  · refine Or.inl (⟨by omega, ?_, g30.trans (by first | rfl | (rw [kx0, hR0]) | first | rfl | omega | (rw [kx0, hR0, k0_0, hR1])), ((hs 1 0 (by decide) (by decide) (by decide +kernel))).trans (k0_0.trans ((hs 482 0 (by decide) (by decide) (by decide +kernel))).symm), ((hs 138 0 (by decide) (by decide) (by decide +kernel))).trans (k1_0.trans ((rx_same64 (by decide +kernel) (by decide +kernel) hs (i := 0) (by decide) (by decide))).symm), ((hs 274 0 (by decide) (by decide) (by decide +kernel))).trans (k2_0.trans ((rx_same64 (by decide +kernel) (by decide +kernel) hs (i := 6180) (by decide) (by decide))).symm), ((hs 410 0 (by decide) (by decide) (by decide +kernel))).trans (kp0.trans ((hs 484 0 (by decide) (by decide) (by decide +kernel))).symm), ((hs 410 1 (by decide) (by decide) (by decide +kernel))).trans (kp1.trans ((hs 484 1 (by decide) (by decide) (by decide +kernel))).symm), ((hs 0 7 (by decide) (by decide) (by decide +kernel))).trans (kx1.trans ((hs 480 6 (by decide) (by decide) (by decide +kernel))).symm), (fun i i0 i1 => ((lz_fd hs (p := 411) (n := 400) (c := 1032) (k := 0) (by decide +kernel) (by decide) (by decide +kernel) i0 i1)).trans ((kx2 i i0 i1).trans ((lz_fd hs (p := 485) (n := 400) (c := 1066) (k := 0) (by decide +kernel) (by decide) (by decide +kernel) i0 i1)).symm))⟩)
    · exact trivial -- (by first | rfl | omega | (rw [kx0, hR0, k0_0, hR1]))
  · refine Or.inr (⟨by omega, by omega, ?_, g30.trans (by first | rfl | (rw [kx0, hR0]) | first | rfl | omega | (rw [kx0, hR0, k0_0, hR1])), ((hs 1 0 (by decide) (by decide) (by decide +kernel))).trans (k0_0.trans ((hs 482 0 (by decide) (by decide) (by decide +kernel))).symm), ((hs 138 0 (by decide) (by decide) (by decide +kernel))).trans (k1_0.trans ((rx_same64 (by decide +kernel) (by decide +kernel) hs (i := 0) (by decide) (by decide))).symm), ((hs 274 0 (by decide) (by decide) (by decide +kernel))).trans (k2_0.trans ((rx_same64 (by decide +kernel) (by decide +kernel) hs (i := 6180) (by decide) (by decide))).symm), ((hs 410 0 (by decide) (by decide) (by decide +kernel))).trans (kp0.trans ((hs 484 0 (by decide) (by decide) (by decide +kernel))).symm), ((hs 410 1 (by decide) (by decide) (by decide +kernel))).trans (kp1.trans ((hs 484 1 (by decide) (by decide) (by decide +kernel))).symm), ((hs 0 7 (by decide) (by decide) (by decide +kernel))).trans (kx1.trans ((hs 480 6 (by decide) (by decide) (by decide +kernel))).symm), (fun i i0 i1 => ((lz_fd hs (p := 411) (n := 400) (c := 1032) (k := 0) (by decide +kernel) (by decide) (by decide +kernel) i0 i1)).trans ((kx2 i i0 i1).trans ((lz_fd hs (p := 485) (n := 400) (c := 1066) (k := 0) (by decide +kernel) (by decide) (by decide +kernel) i0 i1)).symm))⟩)
    · exact trivial -- (by first | rfl | omega | (rw [kx0, hR0, k0_0, hR1]))
set_option maxHeartbeats 2000000 in
theorem lz_m13b {v : Value} (h : bx_ConP rxG rxNW rxAO PX Dg rxL rxX vwCl (lz_A s) ad l rxM240 rxC240 (fun _ _ => True) rzPT240) : lz_M l s Dg PX ad rxM240 rxC240.2.2.2.1 480 (lz_xs xs 1 a) (lzK13 (xs a).toInt v) (fun v' => ∃ x : Int32, v' = .int x) (fun _ => lzK) := by
  refine lz_conPM (q := 480) (tc := 0) h ⟨_, rfl⟩ ⟨_, rfl⟩ rfl (fun _ _ _ => trivial) fun S0 S y hk hI0 hI hs hp => ?_
  obtain ⟨pa, e1, hp⟩ := hp
  have epa : (xs a).toInt = pa := Option.some.inj (congrArg (fun l : List Int => l[1]?) e1)
  rw [epa] at hk
  have hy : ∀ z : Int, y = z → bx_fv ad 0 y = Value.int (Int32.ofInt z) := fun z q => by rw [q]; rfl
  rcases hk with ⟨q10, hv, hn0, k0_0, k1_0, k2_0, kp0, kp1, kx1, kx2⟩ | ⟨q10, q11, hv, hn0, k0_0, k1_0, k2_0, kp0, kp1, kx1, kx2⟩
  · rcases hp with ⟨g10, g2, g30⟩ | ⟨g10, g11, g2, g30⟩
    · exact ⟨⟨_, rfl⟩, ((hs 1 0 (by decide) (by decide) (by decide +kernel))).trans (k0_0.trans ((hs 482 0 (by decide) (by decide) (by decide +kernel))).symm), ((hs 138 0 (by decide) (by decide) (by decide +kernel))).trans (k1_0.trans ((rx_same64 (by decide +kernel) (by decide +kernel) hs (i := 0) (by decide) (by decide))).symm), ((hs 274 0 (by decide) (by decide) (by decide +kernel))).trans (k2_0.trans ((rx_same64 (by decide +kernel) (by decide +kernel) hs (i := 6180) (by decide) (by decide))).symm), ((hs 410 0 (by decide) (by decide) (by decide +kernel))).trans (kp0.trans ((hs 484 0 (by decide) (by decide) (by decide +kernel))).symm), ((hs 410 1 (by decide) (by decide) (by decide +kernel))).trans (kp1.trans ((hs 484 1 (by decide) (by decide) (by decide +kernel))).symm), ((hs 0 4 (by decide) (by decide) (by decide +kernel))).trans (hn0.trans g30.symm), ((hs 0 7 (by decide) (by decide) (by decide +kernel))).trans (kx1.trans ((hs 480 6 (by decide) (by decide) (by decide +kernel))).symm), (fun i i0 i1 => ((lz_fd hs (p := 411) (n := 400) (c := 1032) (k := 0) (by decide +kernel) (by decide) (by decide +kernel) i0 i1)).trans ((kx2 i i0 i1).trans ((lz_fd hs (p := 485) (n := 400) (c := 1066) (k := 0) (by decide +kernel) (by decide) (by decide +kernel) i0 i1)).symm))⟩
    · exfalso; omega
  · rcases hp with ⟨g10, g2, g30⟩ | ⟨g10, g11, g2, g30⟩
    · exfalso; omega
    · exact ⟨⟨_, rfl⟩, ((hs 1 0 (by decide) (by decide) (by decide +kernel))).trans (k0_0.trans ((hs 482 0 (by decide) (by decide) (by decide +kernel))).symm), ((hs 138 0 (by decide) (by decide) (by decide +kernel))).trans (k1_0.trans ((rx_same64 (by decide +kernel) (by decide +kernel) hs (i := 0) (by decide) (by decide))).symm), ((hs 274 0 (by decide) (by decide) (by decide +kernel))).trans (k2_0.trans ((rx_same64 (by decide +kernel) (by decide +kernel) hs (i := 6180) (by decide) (by decide))).symm), ((hs 410 0 (by decide) (by decide) (by decide +kernel))).trans (kp0.trans ((hs 484 0 (by decide) (by decide) (by decide +kernel))).symm), ((hs 410 1 (by decide) (by decide) (by decide +kernel))).trans (kp1.trans ((hs 484 1 (by decide) (by decide) (by decide +kernel))).symm), ((hs 0 4 (by decide) (by decide) (by decide +kernel))).trans (hn0.trans g30.symm), ((hs 0 7 (by decide) (by decide) (by decide +kernel))).trans (kx1.trans ((hs 480 6 (by decide) (by decide) (by decide +kernel))).symm), (fun i i0 i1 => ((lz_fd hs (p := 411) (n := 400) (c := 1032) (k := 0) (by decide +kernel) (by decide) (by decide +kernel) i0 i1)).trans ((kx2 i i0 i1).trans ((lz_fd hs (p := 485) (n := 400) (c := 1066) (k := 0) (by decide +kernel) (by decide) (by decide +kernel) i0 i1)).symm))⟩
def lzK14  (v : Value) (S : Nat → Int → Int) : Prop := (True ∧ S 0 4 = 0 ∧ S 1 0 = S 482 0 ∧ S 138 0 = S 483 0 ∧ S 274 0 = S 483 6180 ∧ S 410 0 = S 484 0 ∧ S 410 1 = S 484 1 ∧ S 0 7 = S 480 6 ∧ (∀ i : Int, 0 ≤ i → i < 400 → S 411 i = S 485 i))
set_option maxHeartbeats 2000000 in
theorem lz_m14a (h : bx_ConP rxG rxNW rxAO PX Dg rxL rxX vwCl (lz_A s) ad l rxM241 rxC241 (fun _ _ => True) rxPS241) : lz_M l s Dg PX ad rxM241 rxC241.2.2.2.1 0 (lz_xs xs 0 a) lzK (fun v => ∃ x : Int32, v = .int x) (lzK14) := by
  refine lz_conPM (q := 0) (tc := 0) h ⟨_, rfl⟩ ⟨_, rfl⟩ rfl (fun _ _ _ => trivial) fun S0 S y hk hI0 hI hs hp => ⟨⟨_, rfl⟩, ?_⟩
  obtain ⟨e1, hp⟩ := hp
  have _ := e1
  have hK := hk
  obtain ⟨k0_0, k1_0, k2_0, kp0, kp1, kx0, kx1, kx2⟩ := hk
  have hR0 : S 480 8 = S0 480 8 := (hs 480 8 (by decide) (by decide) (by decide +kernel))
  rcases hp with ⟨g2, g30⟩
  · refine ⟨?_, g30.trans (by first | rfl | (rw [kx0, hR0]) | first | rfl | omega | (rw [kx0, hR0])), ((hs 1 0 (by decide) (by decide) (by decide +kernel))).trans (k0_0.trans ((hs 482 0 (by decide) (by decide) (by decide +kernel))).symm), ((hs 138 0 (by decide) (by decide) (by decide +kernel))).trans (k1_0.trans ((rx_same64 (by decide +kernel) (by decide +kernel) hs (i := 0) (by decide) (by decide))).symm), ((hs 274 0 (by decide) (by decide) (by decide +kernel))).trans (k2_0.trans ((rx_same64 (by decide +kernel) (by decide +kernel) hs (i := 6180) (by decide) (by decide))).symm), ((hs 410 0 (by decide) (by decide) (by decide +kernel))).trans (kp0.trans ((hs 484 0 (by decide) (by decide) (by decide +kernel))).symm), ((hs 410 1 (by decide) (by decide) (by decide +kernel))).trans (kp1.trans ((hs 484 1 (by decide) (by decide) (by decide +kernel))).symm), ((hs 0 7 (by decide) (by decide) (by decide +kernel))).trans (kx1.trans ((hs 480 6 (by decide) (by decide) (by decide +kernel))).symm), (fun i i0 i1 => ((lz_fd hs (p := 411) (n := 400) (c := 1032) (k := 0) (by decide +kernel) (by decide) (by decide +kernel) i0 i1)).trans ((kx2 i i0 i1).trans ((lz_fd hs (p := 485) (n := 400) (c := 1066) (k := 0) (by decide +kernel) (by decide) (by decide +kernel) i0 i1)).symm))⟩
    · exact trivial -- (by first | rfl | omega | (rw [kx0, hR0]))
set_option maxHeartbeats 2000000 in
theorem lz_m14b {v : Value} (h : bx_ConP rxG rxNW rxAO PX Dg rxL rxX vwCl (lz_A s) ad l rxM242 rxC242 (fun _ _ => True) rzPT242) : lz_M l s Dg PX ad rxM242 rxC242.2.2.2.1 480 (lz_xs xs 0 a) (lzK14 v) (fun v' => ∃ x : Int32, v' = .int x) (fun _ => lzK) := by
  refine lz_conPM (q := 480) (tc := 0) h ⟨_, rfl⟩ ⟨_, rfl⟩ rfl (fun _ _ _ => trivial) fun S0 S y hk hI0 hI hs hp => ?_
  obtain ⟨e1, hp⟩ := hp
  have hy : ∀ z : Int, y = z → bx_fv ad 0 y = Value.int (Int32.ofInt z) := fun z q => by rw [q]; rfl
  rcases hk with ⟨hv, hn0, k0_0, k1_0, k2_0, kp0, kp1, kx1, kx2⟩
  · rcases hp with ⟨g2, g30⟩
    · exact ⟨⟨_, rfl⟩, ((hs 1 0 (by decide) (by decide) (by decide +kernel))).trans (k0_0.trans ((hs 482 0 (by decide) (by decide) (by decide +kernel))).symm), ((hs 138 0 (by decide) (by decide) (by decide +kernel))).trans (k1_0.trans ((rx_same64 (by decide +kernel) (by decide +kernel) hs (i := 0) (by decide) (by decide))).symm), ((hs 274 0 (by decide) (by decide) (by decide +kernel))).trans (k2_0.trans ((rx_same64 (by decide +kernel) (by decide +kernel) hs (i := 6180) (by decide) (by decide))).symm), ((hs 410 0 (by decide) (by decide) (by decide +kernel))).trans (kp0.trans ((hs 484 0 (by decide) (by decide) (by decide +kernel))).symm), ((hs 410 1 (by decide) (by decide) (by decide +kernel))).trans (kp1.trans ((hs 484 1 (by decide) (by decide) (by decide +kernel))).symm), ((hs 0 4 (by decide) (by decide) (by decide +kernel))).trans (hn0.trans g30.symm), ((hs 0 7 (by decide) (by decide) (by decide +kernel))).trans (kx1.trans ((hs 480 6 (by decide) (by decide) (by decide +kernel))).symm), (fun i i0 i1 => ((lz_fd hs (p := 411) (n := 400) (c := 1032) (k := 0) (by decide +kernel) (by decide) (by decide +kernel) i0 i1)).trans ((kx2 i i0 i1).trans ((lz_fd hs (p := 485) (n := 400) (c := 1066) (k := 0) (by decide +kernel) (by decide) (by decide +kernel) i0 i1)).symm))⟩
end LZS
