/-! LEAST, the developers': the deeds ROW by ROW -/
def ldLy (S0 S : Nat → Int → Int) (L : List Int) : Prop := S 451 0 = L.length ∧ ldH L (fun i x => S 452 i = S0 15 x ∧ S 453 i = S0 16 x ∧ S 454 i = S0 17 x)
def ldLr (S : Nat → Int → Int) (q : Int) : Prop := ∀ y : Int, 0 ≤ y → y < q → ldZ (S 451 0) (S 452) y (S 455 y)
def ldLq (n : Int) (r : Int → Int) (q : Int) : List Int := ldQ (ldt n r) n.toNat q.toNat
def ldLi (n : Int) (r : Int → Int) (q i : Int) : List Int := ldLq n r q ++ ldI (ldt n r) q i.toNat
theorem ldLq_0 {n : Int} {r : Int → Int} : ldLq n r 0 = [] := rfl
theorem ldLi_0 {n : Int} {r : Int → Int} {q : Int} : ldLi n r q 0 = ldLq n r q := List.append_nil _
theorem ldLi_n {n : Int} {r : Int → Int} {q : Int} (hq : 0 ≤ q) : ldLi n r q n = ldLq n r (q + 1) := by
  unfold ldLi ldLq
  rw [show (q + 1).toNat = q.toNat + 1 by omega]
  show _ = ldQ _ _ _ ++ ldI _ ((q.toNat : Nat) : Int) _
  rw [show ((q.toNat : Nat) : Int) = q by omega]
theorem ldLi_s {n : Int} {r : Int → Int} {q i : Int} (hi : 0 ≤ i) (hn : i < n) : ldLi n r q (i + 1) = if r i = q then ldLi n r q i ++ [i] else ldLi n r q i := by
  unfold ldLi
  rw [show (i + 1).toNat = i.toNat + 1 by omega]
  show _ ++ (ldI _ _ _ ++ (if ldt n r ((i.toNat : Nat) : Int) = q then [((i.toNat : Nat) : Int)] else [])) = _
  rw [show ((i.toNat : Nat) : Int) = i by omega, ldt_at hi hn]
  split
  · rw [List.append_assoc]
  · rw [List.append_nil]
theorem ldI_mono {r : Int → Int} {q : Int} (j : Nat) : ∀ d : Nat, (ldI r q j).length ≤ (ldI r q (j + d)).length
  | 0 => Nat.le_refl _
  | d + 1 => Nat.le_trans (ldI_mono j d) (by show _ ≤ (ldI r q (j + d) ++ _).length; rw [List.length_append]; exact Nat.le_add_right _ _)
theorem ldQ_mono {r : Int → Int} {n : Nat} (j : Nat) : ∀ d : Nat, (ldQ r n j).length ≤ (ldQ r n (j + d)).length
  | 0 => Nat.le_refl _
  | d + 1 => Nat.le_trans (ldQ_mono j d) (by show _ ≤ (ldQ r n (j + d) ++ _).length; rw [List.length_append]; exact Nat.le_add_right _ _)
/-- there is room -/
theorem ldLi_len {n : Int} {r : Int → Int} {q i : Int} (hr : ∀ j : Int, 0 ≤ j → j < n → 0 ≤ r j ∧ r j < 4) (h0 : 0 ≤ n) (hq0 : 0 ≤ q) (hq : q < 4) (hi : i ≤ n) : (ldLi n r q i).length ≤ n.toNat := by
  have h4 : (ldQ (ldt n r) n.toNat 4).length = n.toNat := ldQ_len4 fun j a b => by
    rw [ldt_at a (by omega)]
    exact hr j a (by omega)
  have m1 := ldQ_mono (r := ldt n r) (n := n.toNat) (q.toNat + 1) (3 - q.toNat)
  rw [show q.toNat + 1 + (3 - q.toNat) = 4 by omega, h4] at m1
  have m2 := ldI_mono (r := ldt n r) (q := q) i.toNat (n.toNat - i.toNat)
  rw [show i.toNat + (n.toNat - i.toNat) = n.toNat by omega] at m2
  have e : (ldQ (ldt n r) n.toNat (q.toNat + 1)).length = (ldQ (ldt n r) n.toNat q.toNat).length + (ldI (ldt n r) q n.toNat).length := by
    show (ldQ _ _ _ ++ ldI _ ((q.toNat : Nat) : Int) _).length = _
    rw [List.length_append, show ((q.toNat : Nat) : Int) = q by omega]
  unfold ldLi ldLq
  rw [List.length_append]
  omega
/-- a new row begins: none of it is laid yet -/
theorem ldLy_no {S0 S : Nat → Int → Int} {q : Int} (hq : 0 ≤ q) (h : ldLy S0 S (ldLq (S0 14 0) (S0 15) q)) : ∀ i : Int, 0 ≤ i → i < S 451 0 → S 452 i < q := fun i h0 h1 => by
  have hl := h.1
  have hk : i.toNat < (ldLq (S0 14 0) (S0 15) q).length := by omega
  have e := h.2 i.toNat _ (List.getElem?_eq_getElem hk)
  have m := ldQ_mem q.toNat _ (List.getElem_mem hk)
  have e1 := e.1
  rw [show ((i.toNat : Nat) : Int) = i by omega] at e1
  rw [ldt_at m.1 (by omega)] at m
  omega
/-- the whole is laid -/
theorem ldLy_D {S0 S : Nat → Int → Int} (hr : ∀ j : Int, 0 ≤ j → j < S0 14 0 → 0 ≤ S0 15 j ∧ S0 15 j < 4) (h0 : 0 ≤ S0 14 0) (h : ldLy S0 S (ldLq (S0 14 0) (S0 15) 4)) : S 451 0 = S0 14 0 ∧ ldt (S 451 0) (S 452) = ldt (S0 14 0) (ldF (ldLq (S0 14 0) (S0 15) 4) (S0 15)) ∧ ldt (S 451 0) (S 453) = ldt (S0 14 0) (ldF (ldLq (S0 14 0) (S0 15) 4) (S0 16)) ∧ ldt (S 451 0) (S 454) = ldt (S0 14 0) (ldF (ldLq (S0 14 0) (S0 15) 4) (S0 17)) := by
  have h4 : (ldLq (S0 14 0) (S0 15) 4).length = (S0 14 0).toNat := ldQ_len4 fun j a b => by
    rw [ldt_at a (by omega)]
    exact hr j a (by omega)
  have e0 : S 451 0 = S0 14 0 := by
    have := h.1
    omega
  have key : ∀ k : Int, 0 ≤ k → k < S0 14 0 → S 452 k = ldF (ldLq (S0 14 0) (S0 15) 4) (S0 15) k ∧ S 453 k = ldF (ldLq (S0 14 0) (S0 15) 4) (S0 16) k ∧ S 454 k = ldF (ldLq (S0 14 0) (S0 15) 4) (S0 17) k := fun k a b => by
    obtain ⟨x, hx, e1⟩ := ldF_at (L := ldLq (S0 14 0) (S0 15) 4) (f := S0 15) a (by omega)
    obtain ⟨y, hy, e2⟩ := ldF_at (L := ldLq (S0 14 0) (S0 15) 4) (f := S0 16) a (by omega)
    obtain ⟨z, hz, e3⟩ := ldF_at (L := ldLq (S0 14 0) (S0 15) 4) (f := S0 17) a (by omega)
    rw [hx] at hy hz
    have hy := Option.some.inj hy
    have hz := Option.some.inj hz
    subst hy
    subst hz
    have q := h.2 k.toNat x hx
    rw [show ((k.toNat : Nat) : Int) = k by omega] at q
    rw [e1, e2, e3]
    exact q
  rw [e0]
  exact ⟨rfl, ldt_cg fun k a b => (key k a b).1, ldt_cg fun k a b => (key k a b).2.1, ldt_cg fun k a b => (key k a b).2.2⟩
theorem ld15 {S : Nat → Int → Int} (h : bx_Inv rxL S) {j : Int} (h0 : 0 ≤ j) (h1 : j < 12) : 0 ≤ S 15 j ∧ S 15 j ≤ 3 := ld_ok (ldBx h (p := 15) (n := 12) (t := (0, 0, 3)) (by decide +kernel) (by omega) rfl h0 h1)
theorem ld14 {S : Nat → Int → Int} (h : bx_Inv rxL S) : 0 ≤ S 14 0 ∧ S 14 0 ≤ 12 := rx_inv h (p := 14) (j := 0) (t := (0, 0, 12)) (by omega) rfl (by omega) (by decide) (by decide +kernel)
def ldFd (S0 S : Nat → Int → Int) : Prop := S 14 0 = S0 14 0 ∧ (∀ j : Int, 0 ≤ j → j < 12 → S 15 j = S0 15 j) ∧ (∀ j : Int, 0 ≤ j → j < 12 → S 16 j = S0 16 j) ∧ (∀ j : Int, 0 ≤ j → j < 12 → S 17 j = S0 17 j)
theorem ldFd_of {ms : List (Nat × Nat)} {S0 S : Nat → Int → Int} (h : bx_same rxL (bx_mdl ms) S0 S) (h1 : bx_mdl ms 2 0 = false) (h2 : bx_mdl ms 1011 0 = false) (h3 : bx_mdl ms 1011 1 = false) (h4 : bx_mdl ms 1012 0 = false) (h5 : bx_mdl ms 1012 1 = false) (h6 : bx_mdl ms 1013 0 = false) (h7 : bx_mdl ms 1013 1 = false) : ldFd S0 S :=
  ⟨h 14 0 (by decide) (by decide) h1, fun j a b => rx_sameR2 h (tc := 0) (n := 12) (g := 11) rfl (by omega) h2 h3 a b, fun j a b => rx_sameR2 h (tc := 0) (n := 12) (g := 12) rfl (by omega) h4 h5 a b, fun j a b => rx_sameR2 h (tc := 0) (n := 12) (g := 13) rfl (by omega) h6 h7 a b⟩
theorem ldZ_push {n row z x : Int} {R R' : Int → Int} (hn : 0 ≤ n) (h : ldZ n R row z) (hR : ∀ i : Int, i ≠ n → R' i = R i) (hx : R' n = x) (hne : x ≠ row) : ldZ (n + 1) R' row z := by
  rcases h with ⟨a1, a2⟩ | ⟨a1, a2, a3, a4⟩
  · refine Or.inl ⟨a1, fun i b c => ?_⟩
    by_cases hi : i = n
    · rw [hi, hx]
      exact hne
    · rw [hR i hi]
      exact a2 i b (by omega)
  · refine Or.inr ⟨a1, by omega, by rw [hR z (by omega)]; exact a3, fun i b c => ?_⟩
    by_cases hi : i = n
    · rw [hi, hx]
      exact hne
    · rw [hR i hi]
      exact a4 i b (by omega)
theorem ldZ_last {n row : Int} {R' : Int → Int} (hn : 0 ≤ n) (hx : R' n = row) : ldZ (n + 1) R' row n := Or.inr ⟨hn, by omega, hx, fun i b c => by omega⟩
/-! CONTRACT BY HAND, by program (wip/sim/genhand.py): DeadUnderstudies$Least.lay -/
def rxCLLY : bx_Ct := ([(3, (1, 451, 0)), (3, (1, 14, 0))], none, [(4, 0), (1043, 0), (1044, 0), (1045, 0), (1046, 0)], 0, [])
def rxILLY_0 (S0 : Nat → Int → Int) (ws : List Int) (S : Nat → Int → Int) : Prop := S = S0 ∧ ws = [451, 14]
def rxmLLY_0 (S0 : Nat → Int → Int) (ws : List Int) (S : Nat → Int → Int) : Nat := 100000
def rxzLLY_0 : rx_Z := ([(0, 0), (0, 0), (0, 0), (0, 0), (0, 0), (0, 0), (0, 0), (0, 0)], [], [], 0, 0, 0, [(0, .inr (3, (0, 451))), (1, .inr (3, (0, 14)))], [])
def rxILLY_1 (S0 : Nat → Int → Int) (ws : List Int) (S : Nat → Int → Int) (q : Int) : Prop := ldLy S0 S (ldLq (S0 14 0) (S0 15) q) ∧ ldLr S q
def rxmLLY_1 (S0 : Nat → Int → Int) (ws : List Int) (S : Nat → Int → Int) (q : Int) : Nat := 1000 * (20 - q).toNat + 999
def rxzLLY_1 : rx_Z := ([(0, 0), (0, 0), (0, 0), (0, 0), (0, 0), (0, 0), (0, 0), (0, 0), (0, 4)], [], [], 0, 0, 7, [(0, .inr (3, (0, 451))), (1, .inr (3, (0, 14))), (2, .inr (0, (8, 0)))], [])
def rxILLY_2 (S0 : Nat → Int → Int) (ws : List Int) (S : Nat → Int → Int) (q i : Int) : Prop := i ≤ S0 14 0 ∧ ldLy S0 S (ldLi (S0 14 0) (S0 15) q i) ∧ ldLr S (q + 1)
def rxmLLY_2 (S0 : Nat → Int → Int) (ws : List Int) (S : Nat → Int → Int) (q i : Int) : Nat := 1000 * (20 - q).toNat + 10 * (20 - i).toNat
def rxzLLY_2 : rx_Z := ([(0, 0), (0, 0), (0, 0), (0, 0), (0, 0), (0, 0), (0, 0), (0, 0), (0, 3), (0, 12)], [], [], 0, 0, 21, [(0, .inr (3, (0, 451))), (1, .inr (3, (0, 14))), (2, .inr (0, (8, 0))), (3, .inr (0, (9, 0)))], [])
def rxoLLY_0_0 : bx_HO := (([(0, 0), (0, 0), (0, 0), (0, 0), (0, 0), (0, 0), (0, 0), (0, 0)], [], [(((0, 0), 1851192626986356797424340330377019318111018015026043177819373571000000), .inr (0, (0, 0))), (((0, 451), 0), .inr (0, (0, 0)))], 0, 0, 7, [(2, .inr (0, (0, 0))), (0, .inr (3, (0, 451))), (1, .inr (3, (0, 14)))], []), [], [], [(0, 0), (0, 0), (0, 0), (0, 0), (0, 0), (0, 0), (0, 0), (0, 0), (0, 0)], 1)
def rxoLLY_1_0 : bx_HO := (([(0, 0), (0, 0), (0, 0), (0, 0), (0, 0), (0, 0), (0, 0), (0, 0), (0, 3)], [], [(((0, 0), 1851192626986356797424364830707437625680387377997778265132957699000000), .inr (0, (0, (-1)))), (((0, 451), 4), .inr (3, (0, 455)))], 0, 0, 21, [(3, .inr (0, (0, 0))), (0, .inr (3, (0, 451))), (1, .inr (3, (0, 14))), (2, .inr (0, (8, 0)))], []), [], [], [(0, 0), (0, 0), (0, 0), (0, 0), (0, 0), (0, 0), (0, 0), (0, 0), (8, 0), (0, 0)], 2)
def rxeLLY_1_0 : rx_End × List (Nat × Int × Int) := (([(0, 0), (0, 0), (0, 0), (0, 0), (0, 0), (0, 0), (0, 0), (0, 0), (4, 4)], [], [], none), [])
def rxoLLY_2_0 : bx_HO := (([(0, 0), (0, 0), (0, 0), (0, 0), (0, 0), (0, 0), (0, 0), (0, 0), (0, 3), (0, 11), (1, 12), (0, 3), (12, 12)], [(2, (11, 0), (8, 0)), (0, (9, 0), (10, 0))], [(((0, 0), 1851192626986356797424340330377019318111018015026043177819373568000000), .inr (0, (12, 0))), (((0, 451), 0), .inr (0, (12, 0))), (((0, 0), 1851192626986356797424367893248739914126558548369245150787338240000000), .inr (0, (11, 0))), (((0, 14), 1), .inr (3, (0, 15))), (((0, 0), 1851192626986356797424340330377019318111018015026043177561620480000000), .inr (0, (10, 0))), (((0, 14), 0), .inr (0, (10, 0)))], 0, 0, 21, [(3, .inr (0, (9, 1))), (0, .inr (3, (0, 451))), (1, .inr (3, (0, 14))), (2, .inr (0, (8, 0)))], []), [], [], [(0, 0), (0, 0), (0, 0), (0, 0), (0, 0), (0, 0), (0, 0), (0, 0), (8, 0), (9, 1)], 2)
def rxoLLY_2_1 : bx_HO := (([(0, 0), (0, 0), (0, 0), (0, 0), (0, 0), (0, 0), (0, 0), (0, 0), (0, 3), (0, 11), (1, 12), (0, 3), (0, 11), (0, 5), (0, 9)], [(2, (11, 0), (8, 0)), (0, (9, 0), (10, 0))], [(((0, 0), 1851192626986356797424340330377019318111018015026043177819373571000000), .inr (0, (12, 1))), (((0, 451), 0), .inr (0, (12, 1))), (((0, 0), 1851192626986356797424364830707437625680387377997778265132957699000000), .inr (0, (12, 0))), (((0, 451), 4), .inr (3, (0, 455))), (((0, 0), 1851192626986356797424377080872646779465072059483645808787980291000000), .inr (0, (14, 0))), (((0, 0), 1851192626986356797424367893248739914126558548369245150788517888000000), .inr (0, (14, 0))), (((0, 14), 3), .inr (3, (0, 17))), (((0, 451), 3), .inr (3, (0, 454))), (((0, 0), 1851192626986356797424377080872646779465072059483645808787390467000000), .inr (0, (13, 0))), (((0, 0), 1851192626986356797424367893248739914126558548369245150787928064000000), .inr (0, (13, 0))), (((0, 14), 2), .inr (3, (0, 16))), (((0, 451), 2), .inr (3, (0, 453))), (((0, 0), 1851192626986356797424377080872646779465072059483645808786800643000000), .inr (0, (8, 0))), (((0, 451), 1), .inr (3, (0, 452))), (((0, 0), 1851192626986356797424340330377019318111018015026043177819373568000000), .inr (0, (12, 0))), (((0, 0), 1851192626986356797424367893248739914126558548369245150787338240000000), .inr (0, (11, 0))), (((0, 14), 1), .inr (3, (0, 15))), (((0, 0), 1851192626986356797424340330377019318111018015026043177561620480000000), .inr (0, (10, 0))), (((0, 14), 0), .inr (0, (10, 0)))], 0, 0, 21, [(3, .inr (0, (9, 1))), (0, .inr (3, (0, 451))), (1, .inr (3, (0, 14))), (2, .inr (0, (8, 0)))], []), [], [], [(0, 0), (0, 0), (0, 0), (0, 0), (0, 0), (0, 0), (0, 0), (0, 0), (8, 0), (9, 1)], 2)
def rxoLLY_2_2 : bx_HO := (([(0, 0), (0, 0), (0, 0), (0, 0), (0, 0), (0, 0), (0, 0), (0, 0), (0, 3), (0, 11), (1, 12), (0, 3)], [(3, (11, 0), (8, 0)), (0, (9, 0), (10, 0))], [(((0, 0), 1851192626986356797424367893248739914126558548369245150787338240000000), .inr (0, (11, 0))), (((0, 14), 1), .inr (3, (0, 15))), (((0, 0), 1851192626986356797424340330377019318111018015026043177561620480000000), .inr (0, (10, 0))), (((0, 14), 0), .inr (0, (10, 0)))], 0, 0, 21, [(3, .inr (0, (9, 1))), (0, .inr (3, (0, 451))), (1, .inr (3, (0, 14))), (2, .inr (0, (8, 0)))], []), [], [], [(0, 0), (0, 0), (0, 0), (0, 0), (0, 0), (0, 0), (0, 0), (0, 0), (8, 0), (9, 1)], 2)
def rxoLLY_2_3 : bx_HO := (([(0, 0), (0, 0), (0, 0), (0, 0), (0, 0), (0, 0), (0, 0), (0, 0), (0, 3), (0, 12), (0, 12)], [(1, (10, 0), (9, 0))], [(((0, 0), 1851192626986356797424340330377019318111018015026043177561620480000000), .inr (0, (10, 0))), (((0, 14), 0), .inr (0, (10, 0)))], 0, 0, 7, [(2, .inr (0, (8, 1))), (0, .inr (3, (0, 451))), (1, .inr (3, (0, 14))), (3, .inr (0, (9, 0)))], []), [], [], [(0, 0), (0, 0), (0, 0), (0, 0), (0, 0), (0, 0), (0, 0), (0, 0), (8, 1)], 1)
def rxYLLY : List bx_HE := [(rxzLLY_0, [rxoLLY_0_0], []), (rxzLLY_1, [rxoLLY_1_0], [rxeLLY_1_0]), (rxzLLY_2, [rxoLLY_2_0, rxoLLY_2_1, rxoLLY_2_2, rxoLLY_2_3], [])]
def rxULLY (q : bx_HE) : Bool := false
def rxYBLLY : bx_B := (rxV, rxNP, rxDmf, bx_mdH rxCLLY.2.2.1)
set_option maxRecDepth 100000 in
theorem rxYcLLY : bx_chkH rxYBLLY rxM147 rxCLLY rxYLLY (rxULLY, fun cut z => rx_ex2 (rxCT rxYBLLY rxCnE) cut 30000 rxCLLY.2.2.2.1 147 z) = true := by decide +kernel
def rxILLY (S0 : Nat → Int → Int) (ws : List Int) (i : Nat) : bx_SP := fun S r => match i with | 0 => rxILLY_0 S0 ws S | 1 => rxILLY_1 S0 ws S (r 8) | 2 => rxILLY_2 S0 ws S (r 8) (r 9) | _ => False
def rxmLLY (S0 : Nat → Int → Int) (ws : List Int) (i : Nat) (S : Nat → Int → Int) (r : Nat → Int) : Nat := match i with | 0 => rxmLLY_0 S0 ws S | 1 => rxmLLY_1 S0 ws S (r 8) | 2 => rxmLLY_2 S0 ws S (r 8) (r 9) | _ => 0
def rxPLLY (S0 : Nat → Int → Int) (ws : List Int) : Prop := True
def rxPSLLY (S0 : Nat → Int → Int) (ws : List Int) (S : Nat → Int → Int) (w : Option Int) : Prop := w = none ∧ ldLy S0 S (ldLq (S0 14 0) (S0 15) 4) ∧ ldLr S 4
theorem rxcLLY_0_0 {S0 : Nat → Int → Int} {ws : List Int} {S : Nat → Int → Int} (hP : rxPLLY S0 ws) (hin : bx_same rxL (bx_mdl rxCLLY.2.2.1) S0 S) (I0 : bx_Inv rxL S) (hinv : rxILLY_0 S0 ws S)  : (True) ∧ (True) ∧ rxILLY_1 S0 ws (bx_up S 451 0 0) 0 ∧ rxmLLY_1 S0 ws (bx_up S 451 0 0) 0 < rxmLLY_0 S0 ws S := by
  exact ⟨trivial, trivial, ⟨by rw [ldLq_0]; exact ⟨bx_up_at, ldH_nil⟩, fun y a b => by omega⟩, by unfold rxmLLY_0 rxmLLY_1; omega⟩
theorem rxgLLY_0_0 {X : (Nat → Int → Int) → Prop} {S0 : Nat → Int → Int} {ws : List Int} (hP : rxPLLY S0 ws) : bx_obC rxL X S0 rxCLLY.2.2.1 (rxILLY S0 ws) (rxmLLY S0 ws) 0 rxzLLY_0 rxoLLY_0_0 := by
  intro S S' r r' hinv hX hin hsm_ hseg
  obtain ⟨I0, I1, h0_, hr_, b_, f_, d_⟩ := bx_cl (evs := [(1, (0, 451), (0, 0), .inr (0, (0, 0)))]) (fvs := []) hseg (by decide +kernel) (by decide +kernel)
  have hinv : rxILLY_0 S0 ws S := hinv
  obtain ⟨T0, w_, w0⟩ := d_
  subst w0
  subst w_
  have g := rxcLLY_0_0 hP hin I0 hinv 
  refine ⟨bx_narP_ok (l := []) g.1, bx_nfP_ok h0_ (fvs := []) (by decide +kernel) g.2.1, ?_, ?_⟩
  · show rxILLY_1 S0 ws (bx_up T0 451 (0) (0)) (bx_val [(0, 0), (0, 0), (0, 0), (0, 0), (0, 0), (0, 0), (0, 0), (0, 0), (0, 0)] r' 8)
    rw [bx_val_x (n := 8) (e := (0, 0)) h0_ rfl]
    exact g.2.2.1
  · show rxmLLY_1 S0 ws (bx_up T0 451 (0) (0)) (bx_val [(0, 0), (0, 0), (0, 0), (0, 0), (0, 0), (0, 0), (0, 0), (0, 0), (0, 0)] r' 8) < rxmLLY_0 S0 ws T0
    rw [bx_val_x (n := 8) (e := (0, 0)) h0_ rfl]
    exact g.2.2.2
theorem rxcLLY_1_0 {S0 : Nat → Int → Int} {ws : List Int} {S : Nat → Int → Int} {q : Int} (hP : rxPLLY S0 ws) (hin : bx_same rxL (bx_mdl rxCLLY.2.2.1) S0 S) (I0 : bx_Inv rxL S) (hinv : rxILLY_1 S0 ws S q) (l8 : 0 ≤ q) (u8 : q ≤ 3) : (True) ∧ (True) ∧ rxILLY_2 S0 ws (bx_up S 455 q ((-1))) q 0 ∧ rxmLLY_2 S0 ws (bx_up S 455 q ((-1))) q 0 < rxmLLY_1 S0 ws S q := by
  obtain ⟨hL, hR⟩ := hinv
  have fd := ldFd_of hin (by decide +kernel) (by decide +kernel) (by decide +kernel) (by decide +kernel) (by decide +kernel) (by decide +kernel) (by decide +kernel)
  have hb := ld14 I0
  have f14 := fd.1
  have hr : ∀ j : Int, 0 ≤ j → j < S0 14 0 → 0 ≤ S0 15 j ∧ S0 15 j < 4 := fun j a b => by
    have q := ld15 I0 (j := j) a (by omega)
    rw [fd.2.1 j a (by omega)] at q
    omega
  refine ⟨trivial, trivial, ⟨by omega, ?_, fun y a b => ?_⟩, by unfold rxmLLY_1 rxmLLY_2; omega⟩
  · rw [ldLi_0]
    exact ⟨(bx_up_ne (by omega)).trans hL.1, fun i x h => by rw [bx_up_row (by omega), bx_up_row (by omega), bx_up_row (by omega)]; exact hL.2 i x h⟩
  · by_cases hy : y = q
    · rw [hy, bx_up_ne (by omega), bx_up_row (by omega), bx_up_at]
      exact Or.inl ⟨rfl, fun i a b e => by
        have := ldLy_no l8 hL i a b
        omega⟩
    · rw [bx_up_ne (by omega), bx_up_row (by omega), bx_up_ne (by omega)]
      exact hR y a (by omega)
theorem rxgLLY_1_0 {X : (Nat → Int → Int) → Prop} {S0 : Nat → Int → Int} {ws : List Int} (hP : rxPLLY S0 ws) : bx_obC rxL X S0 rxCLLY.2.2.1 (rxILLY S0 ws) (rxmLLY S0 ws) 1 rxzLLY_1 rxoLLY_1_0 := by
  intro S S' r r' hinv hX hin hsm_ hseg
  obtain ⟨I0, I1, h0_, hr_, b_, f_, d_⟩ := bx_cl (evs := [(1, (0, 455), (8, 0), .inr (0, (0, (-1))))]) (fvs := []) hseg (by decide +kernel) (by decide +kernel)
  have hinv : rxILLY_1 S0 ws S (r 8) := hinv
  rw [← hr_ 8 (by decide)] at hinv
  obtain ⟨⟨l8, u8⟩, -⟩ := b_
  obtain ⟨T0, w_, w0⟩ := d_
  subst w0
  subst w_
  have g := rxcLLY_1_0 hP hin I0 hinv l8 u8
  refine ⟨bx_narP_ok (l := []) g.1, bx_nfP_ok h0_ (fvs := []) (by decide +kernel) g.2.1, ?_, ?_⟩
  · show rxILLY_2 S0 ws (bx_up T0 455 (r' 8) ((-1))) (bx_val [(0, 0), (0, 0), (0, 0), (0, 0), (0, 0), (0, 0), (0, 0), (0, 0), (8, 0), (0, 0)] r' 8) (bx_val [(0, 0), (0, 0), (0, 0), (0, 0), (0, 0), (0, 0), (0, 0), (0, 0), (8, 0), (0, 0)] r' 9)
    rw [bx_val_x (n := 8) (e := (8, 0)) h0_ rfl, bx_val_x (n := 9) (e := (0, 0)) h0_ rfl]
    exact g.2.2.1
  · show rxmLLY_2 S0 ws (bx_up T0 455 (r' 8) ((-1))) (bx_val [(0, 0), (0, 0), (0, 0), (0, 0), (0, 0), (0, 0), (0, 0), (0, 0), (8, 0), (0, 0)] r' 8) (bx_val [(0, 0), (0, 0), (0, 0), (0, 0), (0, 0), (0, 0), (0, 0), (0, 0), (8, 0), (0, 0)] r' 9) < rxmLLY_1 S0 ws T0 (r 8)
    rw [bx_val_x (n := 8) (e := (8, 0)) h0_ rfl, bx_val_x (n := 9) (e := (0, 0)) h0_ rfl, ← hr_ 8 (by decide)]
    exact g.2.2.2
theorem rxdLLY_1_0 {S0 : Nat → Int → Int} {ws : List Int} {S : Nat → Int → Int} {q : Int} (hP : rxPLLY S0 ws) (hin : bx_same rxL (bx_mdl rxCLLY.2.2.1) S0 S) (hin2 : bx_same rxL (bx_mdl rxCLLY.2.2.1) S S) (I0 : bx_Inv rxL S) (I1 : bx_Inv rxL S) (hinv : rxILLY_1 S0 ws S q) (l8 : 4 ≤ q) (u8 : q ≤ 4) : (True) ∧ rxPSLLY S0 ws S none := by
  have hinv : ldLy S0 S (ldLq (S0 14 0) (S0 15) q) ∧ ldLr S q := hinv
  have hq : q = 4 := by omega
  subst hq
  exact ⟨trivial, rfl, hinv⟩
theorem rxfLLY_1_0 {X : (Nat → Int → Int) → Prop} {S0 : Nat → Int → Int} {ws : List Int} (hP : rxPLLY S0 ws) : bx_obE rxL X S0 rxCLLY.2.2.1 (rxILLY S0 ws) (rxPSLLY S0 ws) 1 rxzLLY_1 rxeLLY_1_0 := by
  intro S S' r r' hinv hX hin hsm_ hseg
  obtain ⟨I0, I1, h0_, hr_, b_, f_, d_⟩ := bx_cl (evs := []) (fvs := []) hseg (by decide +kernel) (by decide +kernel)
  have hinv : rxILLY_1 S0 ws S (r 8) := hinv
  rw [← hr_ 8 (by decide)] at hinv
  obtain ⟨⟨l8, u8⟩, -⟩ := b_
  have w_ := d_
  subst w_
  have g := rxdLLY_1_0 hP hin hsm_ I0 I1 hinv l8 u8
  refine ⟨bx_narP_ok (l := []) g.1, ?_⟩
  exact g.2
theorem rxcLLY_2_0 {S0 : Nat → Int → Int} {ws : List Int} {S : Nat → Int → Int} {q i x10 x11 x12 : Int} (hP : rxPLLY S0 ws) (hin : bx_same rxL (bx_mdl rxCLLY.2.2.1) S0 S) (I0 : bx_Inv rxL S) (hinv : rxILLY_2 S0 ws S q i) (l8 : 0 ≤ q) (u8 : q ≤ 3) (l9 : 0 ≤ i) (u9 : i ≤ 11) (l10 : 1 ≤ x10) (u10 : x10 ≤ 12) (l11 : 0 ≤ x11) (u11 : x11 ≤ 3) (l12 : 12 ≤ x12) (u12 : x12 ≤ 12) (f0 : x11 = q) (f1 : i < x10) (e2 : S 14 0 = x10) (e1 : S 15 i = x11) (e0 : S 451 0 = x12) : (True) ∧ (True) ∧ rxILLY_2 S0 ws S q (i + 1) ∧ rxmLLY_2 S0 ws S q (i + 1) < rxmLLY_2 S0 ws S q i := by
  obtain ⟨hi, hL, hR⟩ := hinv
  have fd := ldFd_of hin (by decide +kernel) (by decide +kernel) (by decide +kernel) (by decide +kernel) (by decide +kernel) (by decide +kernel) (by decide +kernel)
  have hb := ld14 I0
  have f14 := fd.1
  have hr : ∀ j : Int, 0 ≤ j → j < S0 14 0 → 0 ≤ S0 15 j ∧ S0 15 j < 4 := fun j a b => by
    have q := ld15 I0 (j := j) a (by omega)
    rw [fd.2.1 j a (by omega)] at q
    omega
  exfalso
  have e := ldLi_s (n := S0 14 0) (r := S0 15) (q := q) (i := i) l9 (by omega)
  rw [if_pos ((fd.2.1 i l9 (by omega)).symm.trans (by omega))] at e
  have hl := ldLi_len (n := S0 14 0) (r := S0 15) (q := q) (i := i + 1) hr (by omega) l8 (by omega) (by omega)
  have h1 : ([i] : List Int).length = 1 := rfl
  rw [e, List.length_append, h1] at hl
  have := hL.1
  omega
theorem rxgLLY_2_0 {X : (Nat → Int → Int) → Prop} {S0 : Nat → Int → Int} {ws : List Int} (hP : rxPLLY S0 ws) : bx_obC rxL X S0 rxCLLY.2.2.1 (rxILLY S0 ws) (rxmLLY S0 ws) 2 rxzLLY_2 rxoLLY_2_0 := by
  intro S S' r r' hinv hX hin hsm_ hseg
  obtain ⟨I0, I1, h0_, hr_, b_, f_, d_⟩ := bx_cl (evs := [(0, (0, 451), (0, 0), .inr (0, (12, 0))), (0, (0, 15), (9, 0), .inr (0, (11, 0))), (0, (0, 14), (0, 0), .inr (0, (10, 0)))]) (fvs := [(2, (11, 0), (8, 0), (0, 0)), (0, (9, 0), (10, 0), (0, 0))]) hseg (by decide +kernel) (by decide +kernel)
  have hinv : rxILLY_2 S0 ws S (r 8) (r 9) := hinv
  rw [← hr_ 8 (by decide), ← hr_ 9 (by decide)] at hinv
  obtain ⟨⟨l8, u8⟩, ⟨l9, u9⟩, ⟨l10, u10⟩, ⟨l11, u11⟩, ⟨l12, u12⟩, -⟩ := b_
  obtain ⟨f0, f1, -⟩ := f_
  obtain ⟨e0, ⟨e1, ⟨e2, w_⟩⟩⟩ := d_
  subst w_
  have g := rxcLLY_2_0 hP hin I0 hinv l8 u8 l9 u9 l10 u10 l11 u11 l12 u12 f0 f1 e2 e1 e0
  refine ⟨bx_narP_ok (l := []) g.1, bx_nfP_ok h0_ (fvs := []) (by decide +kernel) g.2.1, ?_, ?_⟩
  · show rxILLY_2 S0 ws S' (bx_val [(0, 0), (0, 0), (0, 0), (0, 0), (0, 0), (0, 0), (0, 0), (0, 0), (8, 0), (9, 1)] r' 8) (bx_val [(0, 0), (0, 0), (0, 0), (0, 0), (0, 0), (0, 0), (0, 0), (0, 0), (8, 0), (9, 1)] r' 9)
    rw [bx_val_x (n := 8) (e := (8, 0)) h0_ rfl, bx_val_x (n := 9) (e := (9, 1)) h0_ rfl]
    exact g.2.2.1
  · show rxmLLY_2 S0 ws S' (bx_val [(0, 0), (0, 0), (0, 0), (0, 0), (0, 0), (0, 0), (0, 0), (0, 0), (8, 0), (9, 1)] r' 8) (bx_val [(0, 0), (0, 0), (0, 0), (0, 0), (0, 0), (0, 0), (0, 0), (0, 0), (8, 0), (9, 1)] r' 9) < rxmLLY_2 S0 ws S' (r 8) (r 9)
    rw [bx_val_x (n := 8) (e := (8, 0)) h0_ rfl, bx_val_x (n := 9) (e := (9, 1)) h0_ rfl, ← hr_ 8 (by decide), ← hr_ 9 (by decide)]
    exact g.2.2.2
theorem rxcLLY_2_1 {S0 : Nat → Int → Int} {ws : List Int} {S : Nat → Int → Int} {q i x10 x11 x12 x13 x14 : Int} (hP : rxPLLY S0 ws) (hin : bx_same rxL (bx_mdl rxCLLY.2.2.1) S0 S) (I0 : bx_Inv rxL S) (hinv : rxILLY_2 S0 ws S q i) (l8 : 0 ≤ q) (u8 : q ≤ 3) (l9 : 0 ≤ i) (u9 : i ≤ 11) (l10 : 1 ≤ x10) (u10 : x10 ≤ 12) (l11 : 0 ≤ x11) (u11 : x11 ≤ 3) (l12 : 0 ≤ x12) (u12 : x12 ≤ 11) (l13 : 0 ≤ x13) (u13 : x13 ≤ 5) (l14 : 0 ≤ x14) (u14 : x14 ≤ 9) (f0 : x11 = q) (f1 : i < x10) (e9 : S 14 0 = x10) (e8 : S 15 i = x11) (e7 : S 451 0 = x12) (e5 : (bx_up S 452 x12 q) 16 i = x13) (e3 : (bx_up (bx_up S 452 x12 q) 453 x12 x13) 17 i = x14) : (True) ∧ (True) ∧ rxILLY_2 S0 ws (bx_up (bx_up (bx_up (bx_up (bx_up S 452 x12 q) 453 x12 x13) 454 x12 x14) 455 q x12) 451 0 (x12 + 1)) q (i + 1) ∧ rxmLLY_2 S0 ws (bx_up (bx_up (bx_up (bx_up (bx_up S 452 x12 q) 453 x12 x13) 454 x12 x14) 455 q x12) 451 0 (x12 + 1)) q (i + 1) < rxmLLY_2 S0 ws S q i := by
  obtain ⟨hi, hL, hR⟩ := hinv
  have fd := ldFd_of hin (by decide +kernel) (by decide +kernel) (by decide +kernel) (by decide +kernel) (by decide +kernel) (by decide +kernel) (by decide +kernel)
  have hb := ld14 I0
  have f14 := fd.1
  have hr : ∀ j : Int, 0 ≤ j → j < S0 14 0 → 0 ≤ S0 15 j ∧ S0 15 j < 4 := fun j a b => by
    have q := ld15 I0 (j := j) a (by omega)
    rw [fd.2.1 j a (by omega)] at q
    omega
  rw [bx_up_ne (by omega)] at e5
  rw [bx_up_ne (by omega), bx_up_ne (by omega)] at e3
  have g5 := fd.2.1 i l9 (by omega)
  have g6 := fd.2.2.1 i l9 (by omega)
  have g7 := fd.2.2.2 i l9 (by omega)
  have c452 : (bx_up (bx_up (bx_up (bx_up (bx_up S 452 x12 q) 453 x12 x13) 454 x12 x14) 455 q x12) 451 0 (x12 + 1)) 452 = ldu (S 452) x12 q := by rw [bx_up_row (by omega), bx_up_row (by omega), bx_up_row (by omega), bx_up_row (by omega), ldu_bx]
  have c453 : (bx_up (bx_up (bx_up (bx_up (bx_up S 452 x12 q) 453 x12 x13) 454 x12 x14) 455 q x12) 451 0 (x12 + 1)) 453 = ldu (S 453) x12 x13 := by rw [bx_up_row (by omega), bx_up_row (by omega), bx_up_row (by omega), ldu_bx, bx_up_row (by omega)]
  have c454 : (bx_up (bx_up (bx_up (bx_up (bx_up S 452 x12 q) 453 x12 x13) 454 x12 x14) 455 q x12) 451 0 (x12 + 1)) 454 = ldu (S 454) x12 x14 := by rw [bx_up_row (by omega), bx_up_row (by omega), ldu_bx, bx_up_row (by omega), bx_up_row (by omega)]
  have c455 : (bx_up (bx_up (bx_up (bx_up (bx_up S 452 x12 q) 453 x12 x13) 454 x12 x14) 455 q x12) 451 0 (x12 + 1)) 455 = ldu (S 455) q x12 := by rw [bx_up_row (by omega), ldu_bx, bx_up_row (by omega), bx_up_row (by omega), bx_up_row (by omega)]
  have h1 : ([i] : List Int).length = 1 := rfl
  have hl := hL.1
  refine ⟨trivial, trivial, ⟨by omega, ?_, fun y a b => ?_⟩, by unfold rxmLLY_2; omega⟩
  · rw [ldLi_s l9 (by omega), if_pos (by omega)]
    refine ⟨?_, ldH_app hL.2 (fun j x hj h => ?_) ?_⟩
    · rw [bx_up_at, List.length_append, h1]
      omega
    · rw [c452, c453, c454, ldu_ne (by omega), ldu_ne (by omega), ldu_ne (by omega)]
      exact h
    · rw [c452, c453, c454, show (((ldLi (S0 14 0) (S0 15) q i).length : Nat) : Int) = x12 by omega, ldu_at, ldu_at, ldu_at]
      exact ⟨by omega, by omega, by omega⟩
  · rw [bx_up_at, c452, c455]
    by_cases hy : y = q
    · rw [hy, ldu_at]
      exact ldZ_last (by omega) ldu_at
    · rw [ldu_ne hy]
      have z := hR y a (by omega)
      rw [e7] at z
      exact ldZ_push (x := q) l12 z (fun i hi => ldu_ne hi) ldu_at (fun c => hy c.symm)
theorem rxgLLY_2_1 {X : (Nat → Int → Int) → Prop} {S0 : Nat → Int → Int} {ws : List Int} (hP : rxPLLY S0 ws) : bx_obC rxL X S0 rxCLLY.2.2.1 (rxILLY S0 ws) (rxmLLY S0 ws) 2 rxzLLY_2 rxoLLY_2_1 := by
  intro S S' r r' hinv hX hin hsm_ hseg
  obtain ⟨I0, I1, h0_, hr_, b_, f_, d_⟩ := bx_cl (evs := [(1, (0, 451), (0, 0), .inr (0, (12, 1))), (1, (0, 455), (8, 0), .inr (0, (12, 0))), (1, (0, 454), (12, 0), .inr (0, (14, 0))), (0, (0, 17), (9, 0), .inr (0, (14, 0))), (1, (0, 453), (12, 0), .inr (0, (13, 0))), (0, (0, 16), (9, 0), .inr (0, (13, 0))), (1, (0, 452), (12, 0), .inr (0, (8, 0))), (0, (0, 451), (0, 0), .inr (0, (12, 0))), (0, (0, 15), (9, 0), .inr (0, (11, 0))), (0, (0, 14), (0, 0), .inr (0, (10, 0)))]) (fvs := [(2, (11, 0), (8, 0), (0, 0)), (0, (9, 0), (10, 0), (0, 0))]) hseg (by decide +kernel) (by decide +kernel)
  have hinv : rxILLY_2 S0 ws S (r 8) (r 9) := hinv
  rw [← hr_ 8 (by decide), ← hr_ 9 (by decide)] at hinv
  obtain ⟨⟨l8, u8⟩, ⟨l9, u9⟩, ⟨l10, u10⟩, ⟨l11, u11⟩, ⟨l12, u12⟩, ⟨l13, u13⟩, ⟨l14, u14⟩, -⟩ := b_
  obtain ⟨f0, f1, -⟩ := f_
  obtain ⟨T0, ⟨T1, ⟨T2, ⟨e3, ⟨T4, ⟨e5, ⟨T6, ⟨e7, ⟨e8, ⟨e9, w_⟩⟩⟩, w6⟩⟩, w4⟩⟩, w2⟩, w1⟩, w0⟩ := d_
  subst w0
  subst w1
  subst w2
  subst w4
  subst w6
  subst w_
  have g := rxcLLY_2_1 hP hin I0 hinv l8 u8 l9 u9 l10 u10 l11 u11 l12 u12 l13 u13 l14 u14 f0 f1 e9 e8 e7 e5 e3
  refine ⟨bx_narP_ok (l := []) g.1, bx_nfP_ok h0_ (fvs := []) (by decide +kernel) g.2.1, ?_, ?_⟩
  · show rxILLY_2 S0 ws (bx_up (bx_up (bx_up (bx_up (bx_up T6 452 (r' 12) (r' 8)) 453 (r' 12) (r' 13)) 454 (r' 12) (r' 14)) 455 (r' 8) (r' 12)) 451 (0) (r' 12 + 1)) (bx_val [(0, 0), (0, 0), (0, 0), (0, 0), (0, 0), (0, 0), (0, 0), (0, 0), (8, 0), (9, 1)] r' 8) (bx_val [(0, 0), (0, 0), (0, 0), (0, 0), (0, 0), (0, 0), (0, 0), (0, 0), (8, 0), (9, 1)] r' 9)
    rw [bx_val_x (n := 8) (e := (8, 0)) h0_ rfl, bx_val_x (n := 9) (e := (9, 1)) h0_ rfl]
    exact g.2.2.1
  · show rxmLLY_2 S0 ws (bx_up (bx_up (bx_up (bx_up (bx_up T6 452 (r' 12) (r' 8)) 453 (r' 12) (r' 13)) 454 (r' 12) (r' 14)) 455 (r' 8) (r' 12)) 451 (0) (r' 12 + 1)) (bx_val [(0, 0), (0, 0), (0, 0), (0, 0), (0, 0), (0, 0), (0, 0), (0, 0), (8, 0), (9, 1)] r' 8) (bx_val [(0, 0), (0, 0), (0, 0), (0, 0), (0, 0), (0, 0), (0, 0), (0, 0), (8, 0), (9, 1)] r' 9) < rxmLLY_2 S0 ws T6 (r 8) (r 9)
    rw [bx_val_x (n := 8) (e := (8, 0)) h0_ rfl, bx_val_x (n := 9) (e := (9, 1)) h0_ rfl, ← hr_ 8 (by decide), ← hr_ 9 (by decide)]
    exact g.2.2.2
theorem rxcLLY_2_2 {S0 : Nat → Int → Int} {ws : List Int} {S : Nat → Int → Int} {q i x10 x11 : Int} (hP : rxPLLY S0 ws) (hin : bx_same rxL (bx_mdl rxCLLY.2.2.1) S0 S) (I0 : bx_Inv rxL S) (hinv : rxILLY_2 S0 ws S q i) (l8 : 0 ≤ q) (u8 : q ≤ 3) (l9 : 0 ≤ i) (u9 : i ≤ 11) (l10 : 1 ≤ x10) (u10 : x10 ≤ 12) (l11 : 0 ≤ x11) (u11 : x11 ≤ 3) (f0 : x11 ≠ q) (f1 : i < x10) (e1 : S 14 0 = x10) (e0 : S 15 i = x11) : (True) ∧ (True) ∧ rxILLY_2 S0 ws S q (i + 1) ∧ rxmLLY_2 S0 ws S q (i + 1) < rxmLLY_2 S0 ws S q i := by
  obtain ⟨hi, hL, hR⟩ := hinv
  have fd := ldFd_of hin (by decide +kernel) (by decide +kernel) (by decide +kernel) (by decide +kernel) (by decide +kernel) (by decide +kernel) (by decide +kernel)
  have hb := ld14 I0
  have f14 := fd.1
  have hr : ∀ j : Int, 0 ≤ j → j < S0 14 0 → 0 ≤ S0 15 j ∧ S0 15 j < 4 := fun j a b => by
    have q := ld15 I0 (j := j) a (by omega)
    rw [fd.2.1 j a (by omega)] at q
    omega
  refine ⟨trivial, trivial, ⟨by omega, ?_, hR⟩, by unfold rxmLLY_2; omega⟩
  have g5 := fd.2.1 i l9 (by omega)
  rw [ldLi_s l9 (by omega), if_neg (by omega)]
  exact hL
theorem rxgLLY_2_2 {X : (Nat → Int → Int) → Prop} {S0 : Nat → Int → Int} {ws : List Int} (hP : rxPLLY S0 ws) : bx_obC rxL X S0 rxCLLY.2.2.1 (rxILLY S0 ws) (rxmLLY S0 ws) 2 rxzLLY_2 rxoLLY_2_2 := by
  intro S S' r r' hinv hX hin hsm_ hseg
  obtain ⟨I0, I1, h0_, hr_, b_, f_, d_⟩ := bx_cl (evs := [(0, (0, 15), (9, 0), .inr (0, (11, 0))), (0, (0, 14), (0, 0), .inr (0, (10, 0)))]) (fvs := [(3, (11, 0), (8, 0), (0, 0)), (0, (9, 0), (10, 0), (0, 0))]) hseg (by decide +kernel) (by decide +kernel)
  have hinv : rxILLY_2 S0 ws S (r 8) (r 9) := hinv
  rw [← hr_ 8 (by decide), ← hr_ 9 (by decide)] at hinv
  obtain ⟨⟨l8, u8⟩, ⟨l9, u9⟩, ⟨l10, u10⟩, ⟨l11, u11⟩, -⟩ := b_
  obtain ⟨f0, f1, -⟩ := f_
  obtain ⟨e0, ⟨e1, w_⟩⟩ := d_
  subst w_
  have g := rxcLLY_2_2 hP hin I0 hinv l8 u8 l9 u9 l10 u10 l11 u11 f0 f1 e1 e0
  refine ⟨bx_narP_ok (l := []) g.1, bx_nfP_ok h0_ (fvs := []) (by decide +kernel) g.2.1, ?_, ?_⟩
  · show rxILLY_2 S0 ws S' (bx_val [(0, 0), (0, 0), (0, 0), (0, 0), (0, 0), (0, 0), (0, 0), (0, 0), (8, 0), (9, 1)] r' 8) (bx_val [(0, 0), (0, 0), (0, 0), (0, 0), (0, 0), (0, 0), (0, 0), (0, 0), (8, 0), (9, 1)] r' 9)
    rw [bx_val_x (n := 8) (e := (8, 0)) h0_ rfl, bx_val_x (n := 9) (e := (9, 1)) h0_ rfl]
    exact g.2.2.1
  · show rxmLLY_2 S0 ws S' (bx_val [(0, 0), (0, 0), (0, 0), (0, 0), (0, 0), (0, 0), (0, 0), (0, 0), (8, 0), (9, 1)] r' 8) (bx_val [(0, 0), (0, 0), (0, 0), (0, 0), (0, 0), (0, 0), (0, 0), (0, 0), (8, 0), (9, 1)] r' 9) < rxmLLY_2 S0 ws S' (r 8) (r 9)
    rw [bx_val_x (n := 8) (e := (8, 0)) h0_ rfl, bx_val_x (n := 9) (e := (9, 1)) h0_ rfl, ← hr_ 8 (by decide), ← hr_ 9 (by decide)]
    exact g.2.2.2
theorem rxcLLY_2_3 {S0 : Nat → Int → Int} {ws : List Int} {S : Nat → Int → Int} {q i x10 : Int} (hP : rxPLLY S0 ws) (hin : bx_same rxL (bx_mdl rxCLLY.2.2.1) S0 S) (I0 : bx_Inv rxL S) (hinv : rxILLY_2 S0 ws S q i) (l8 : 0 ≤ q) (u8 : q ≤ 3) (l9 : 0 ≤ i) (u9 : i ≤ 12) (l10 : 0 ≤ x10) (u10 : x10 ≤ 12) (f0 : x10 ≤ i) (e0 : S 14 0 = x10) : (True) ∧ (True) ∧ rxILLY_1 S0 ws S (q + 1) ∧ rxmLLY_1 S0 ws S (q + 1) < rxmLLY_2 S0 ws S q i := by
  obtain ⟨hi, hL, hR⟩ := hinv
  have fd := ldFd_of hin (by decide +kernel) (by decide +kernel) (by decide +kernel) (by decide +kernel) (by decide +kernel) (by decide +kernel) (by decide +kernel)
  have hb := ld14 I0
  have f14 := fd.1
  have hr : ∀ j : Int, 0 ≤ j → j < S0 14 0 → 0 ≤ S0 15 j ∧ S0 15 j < 4 := fun j a b => by
    have q := ld15 I0 (j := j) a (by omega)
    rw [fd.2.1 j a (by omega)] at q
    omega
  have hin_ : i = S0 14 0 := by omega
  rw [hin_, ldLi_n l8] at hL
  exact ⟨trivial, trivial, ⟨hL, hR⟩, by unfold rxmLLY_2 rxmLLY_1; omega⟩
theorem rxgLLY_2_3 {X : (Nat → Int → Int) → Prop} {S0 : Nat → Int → Int} {ws : List Int} (hP : rxPLLY S0 ws) : bx_obC rxL X S0 rxCLLY.2.2.1 (rxILLY S0 ws) (rxmLLY S0 ws) 2 rxzLLY_2 rxoLLY_2_3 := by
  intro S S' r r' hinv hX hin hsm_ hseg
  obtain ⟨I0, I1, h0_, hr_, b_, f_, d_⟩ := bx_cl (evs := [(0, (0, 14), (0, 0), .inr (0, (10, 0)))]) (fvs := [(1, (10, 0), (9, 0), (0, 0))]) hseg (by decide +kernel) (by decide +kernel)
  have hinv : rxILLY_2 S0 ws S (r 8) (r 9) := hinv
  rw [← hr_ 8 (by decide), ← hr_ 9 (by decide)] at hinv
  obtain ⟨⟨l8, u8⟩, ⟨l9, u9⟩, ⟨l10, u10⟩, -⟩ := b_
  obtain ⟨f0, -⟩ := f_
  obtain ⟨e0, w_⟩ := d_
  subst w_
  have g := rxcLLY_2_3 hP hin I0 hinv l8 u8 l9 u9 l10 u10 f0 e0
  refine ⟨bx_narP_ok (l := []) g.1, bx_nfP_ok h0_ (fvs := []) (by decide +kernel) g.2.1, ?_, ?_⟩
  · show rxILLY_1 S0 ws S' (bx_val [(0, 0), (0, 0), (0, 0), (0, 0), (0, 0), (0, 0), (0, 0), (0, 0), (8, 1)] r' 8)
    rw [bx_val_x (n := 8) (e := (8, 1)) h0_ rfl]
    exact g.2.2.1
  · show rxmLLY_1 S0 ws S' (bx_val [(0, 0), (0, 0), (0, 0), (0, 0), (0, 0), (0, 0), (0, 0), (0, 0), (8, 1)] r' 8) < rxmLLY_2 S0 ws S' (r 8) (r 9)
    rw [bx_val_x (n := 8) (e := (8, 1)) h0_ rfl, ← hr_ 8 (by decide), ← hr_ 9 (by decide)]
    exact g.2.2.2
theorem rxgCLLY {X : (Nat → Int → Int) → Prop} {S0 : Nat → Int → Int} {ws : List Int} (hP : rxPLLY S0 ws) : bx_allI (fun i q => rxULLY q = true ∨ bx_allP (fun o => bx_obC rxL X S0 rxCLLY.2.2.1 (rxILLY S0 ws) (rxmLLY S0 ws) i q.1 o) q.2.1) 0 rxYLLY := ⟨Or.inr ⟨rxgLLY_0_0 hP, trivial⟩, Or.inr ⟨rxgLLY_1_0 hP, trivial⟩, Or.inr ⟨rxgLLY_2_0 hP, rxgLLY_2_1 hP, rxgLLY_2_2 hP, rxgLLY_2_3 hP, trivial⟩, trivial⟩
theorem rxgELLY {X : (Nat → Int → Int) → Prop} {S0 : Nat → Int → Int} {ws : List Int} (hP : rxPLLY S0 ws) : bx_allI (fun i q => rxULLY q = true ∨ bx_allP (fun E => bx_obE rxL X S0 rxCLLY.2.2.1 (rxILLY S0 ws) (rxPSLLY S0 ws) i q.1 E) q.2.2) 0 rxYLLY := ⟨Or.inr trivial, Or.inr ⟨rxfLLY_1_0 hP, trivial⟩, Or.inr trivial, trivial⟩
theorem rxQLLY {PX : State → Prop} {Dg : va_G} {A : Nat → Prop} {ad xa : Nat → Nat} {l : Launch} {X : (Nat → Int → Int) → Prop} (hPX : rx_PXOK rxNW A PX) (hsl : ∀ s : State, PX s → ∀ o idx n : Nat, rxSl o idx = some n → ∃ tx : String, vk_R (rxNm o) idx tx (ad n) s)
    (hX : ∀ S S' : Nat → Int → Int, X S → bx_same rxL (bx_mdl rxCLLY.2.2.1) S S' → X S')
    (ih : ∀ (j2 : Nat) (ct2 : bx_Ct) (M2 : rx_Mt), ct2 ∈ rxCnE j2 → ct2.2.2.2.1 + 1 ≤ rxCLLY.2.2.2.1 → rxT.2.2.2.2.2 j2 = some M2 → bx_Con rxG rxNW rxAO PX Dg rxL X vwCl A ad l M2 ct2) : bx_ConP rxG rxNW rxAO PX Dg rxL X vwCl A ad l rxM147 rxCLLY rxPLLY rxPSLLY :=
  rxQof (xa := xa) (Cn := rxCnE) (f := 30000) (j := 147) (tab := rxYLLY) (us := rxULLY) hPX hsl hX ih rfl rxYcLLY rxILLY rxmLLY
    (fun S0 ws r I0 I ht0 ht as he he1 hX0 hI0 hP hs ha => by
      have e := he.symm.trans (show bx_ent0 rxNP rxCLLY.1 bx_I0 [] = some ([(0, 0), (0, 0), (0, 0), (0, 0), (0, 0), (0, 0), (0, 0), (0, 0)], [], [.inr (3, (0, 451)), .inr (3, (0, 14))]) from rfl)
      cases e
      subst ha
      have h0 : r 0 = 0 := hs.1
      show rxILLY_0 S0 _ S0
      refine ⟨rfl, ?_⟩
      simp only [List.map_cons, List.map_nil, bx_xv_ok h0]
      rfl)
    (fun S0 ws hP => fun i q hq hus => absurd (show false = true from hus) Bool.false_ne_true) (fun S0 ws hP => rxgCLLY hP) (fun S0 ws hP => rxgELLY hP)
