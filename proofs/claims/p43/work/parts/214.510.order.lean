/-! LEAST, the reference: what its rows tell of the tree -/
def ldrC (S : Nat → Int → Int) : Int → Int := fun k => S 482 (S 512 k + 1)
def ldrW (S : Nat → Int → Int) : Int → Int := fun k => S 482 (S 512 k + 2)
def ldrR (S : Nat → Int → Int) : Int → Int := fun k => S 482 (S 512 k)
def ldrr (S : Nat → Int → Int) : Int → Int := fun j => S 482 (742 + 3 * j)
def ldrc (S : Nat → Int → Int) : Int → Int := fun j => S 482 (743 + 3 * j)
def ldrw (S : Nat → Int → Int) : Int → Int := fun j => S 482 (744 + 3 * j)
def ldRy (S : Nat → Int → Int) (L : List Int) : Prop := ldH L (fun i x => S 512 i = 742 + 3 * x)
theorem ld513 {S : Nat → Int → Int} (h : bx_Inv rxL S) {j : Int} (h0 : 0 ≤ j) (h1 : j < 13) : 0 ≤ S 513 j ∧ S 513 j ≤ 2 := ld_ok (ldBx h (p := 513) (n := 13) (t := (0, 0, 2)) (by decide +kernel) (by omega) rfl h0 h1)
theorem ld514 {S : Nat → Int → Int} (h : bx_Inv rxL S) {j : Int} (h0 : 0 ≤ j) (h1 : j < 18) : -1 ≤ S 514 j ∧ S 514 j ≤ 9 := ld_ok (ldBx h (p := 514) (n := 18) (t := (0, -1, 9)) (by decide +kernel) (by omega) rfl h0 h1)
theorem ld515 {S : Nat → Int → Int} (h : bx_Inv rxL S) {j : Int} (h0 : 0 ≤ j) (h1 : j < 18) : -1 ≤ S 515 j ∧ S 515 j ≤ 2 := ld_ok (ldBx h (p := 515) (n := 18) (t := (0, -1, 2)) (by decide +kernel) (by omega) rfl h0 h1)
theorem ld518 {S : Nat → Int → Int} (h : bx_Inv rxL S) {j : Int} (h0 : 0 ≤ j) (h1 : j < 13) : 0 ≤ S 518 j ∧ S 518 j ≤ 3 := ld_ok (ldBx h (p := 518) (n := 13) (t := (0, 0, 3)) (by decide +kernel) (by omega) rfl h0 h1)
/-- what the deeds are given as -/
def ldRD (S : Nat → Int → Int) (m cue z : Int) : ldD := (m, S 482 6, ldt (S 482 6) (ldrC S), ldt (S 482 6) (ldrW S), ldt (S 482 6) (ldrR S), ldl m cue z (ldt (S 482 6) (ldrC S)))
theorem ldRy_D {S : Nat → Int → Int} (hI : bx_Inv rxL S) (h : ldRy S (ldLq (S 482 6) (ldrr S) 4)) : ldt (S 482 6) (ldrR S) = ldt (S 482 6) (ldF (ldLq (S 482 6) (ldrr S) 4) (ldrr S)) ∧ ldt (S 482 6) (ldrC S) = ldt (S 482 6) (ldF (ldLq (S 482 6) (ldrr S) 4) (ldrc S)) ∧ ldt (S 482 6) (ldrW S) = ldt (S 482 6) (ldF (ldLq (S 482 6) (ldrr S) 4) (ldrw S)) := by
  have h6 := rxN6 hI
  have h4 : (ldLq (S 482 6) (ldrr S) 4).length = (S 482 6).toNat := ldQ_len4 fun j a b => by
    rw [ldt_at a (by omega)]
    have := rxDeed0 hI (j := j) a (by omega)
    unfold ldrr
    omega
  have key : ∀ k : Int, 0 ≤ k → k < S 482 6 → ldrR S k = ldF (ldLq (S 482 6) (ldrr S) 4) (ldrr S) k ∧ ldrC S k = ldF (ldLq (S 482 6) (ldrr S) 4) (ldrc S) k ∧ ldrW S k = ldF (ldLq (S 482 6) (ldrr S) 4) (ldrw S) k := fun k a b => by
    obtain ⟨x, hx, e1⟩ := ldF_at (L := ldLq (S 482 6) (ldrr S) 4) (f := ldrr S) a (by omega)
    obtain ⟨y, hy, e2⟩ := ldF_at (L := ldLq (S 482 6) (ldrr S) 4) (f := ldrc S) a (by omega)
    obtain ⟨z, hz, e3⟩ := ldF_at (L := ldLq (S 482 6) (ldrr S) 4) (f := ldrw S) a (by omega)
    rw [hx] at hy hz
    have hy := Option.some.inj hy
    have hz := Option.some.inj hz
    subst hy
    subst hz
    have q : S 512 ((k.toNat : Nat) : Int) = 742 + 3 * x := h k.toNat x hx
    rw [show ((k.toNat : Nat) : Int) = k by omega] at q
    rw [e1, e2, e3]
    unfold ldrR ldrC ldrW ldrr ldrc ldrw
    rw [q, show 742 + 3 * x + 1 = 743 + 3 * x by omega, show 742 + 3 * x + 2 = 744 + 3 * x by omega]
    exact ⟨rfl, rfl, rfl⟩
  exact ⟨ldt_cg fun k a b => (key k a b).1, ldt_cg fun k a b => (key k a b).2.1, ldt_cg fun k a b => (key k a b).2.2⟩
theorem ldRy_O {S : Nat → Int → Int} (hI : bx_Inv rxL S) (h : ldRy S (ldLq (S 482 6) (ldrr S) 4)) : rxOrd S := fun k a b => by
  have h6 := rxN6 hI
  have h4 : (ldLq (S 482 6) (ldrr S) 4).length = (S 482 6).toNat := ldQ_len4 fun j a b => by
    rw [ldt_at a (by omega)]
    have := rxDeed0 hI (j := j) a (by omega)
    unfold ldrr
    omega
  have hk : k.toNat < (ldLq (S 482 6) (ldrr S) 4).length := by omega
  have e := h k.toNat _ (List.getElem?_eq_getElem hk)
  have m := ldQ_mem 4 _ (List.getElem_mem hk)
  have e : S 512 ((k.toNat : Nat) : Int) = _ := e
  rw [show ((k.toNat : Nat) : Int) = k by omega] at e
  exact ⟨_, m.1, by omega, e⟩
/-! CONTRACT BY HAND, by program (wip/sim/genhand.py): DeadUnderstudiesModel.findOrder -/
def rxCLFO : bx_Ct := ([(3, (1, 480, 0))], none, [(1093, 0)], 0, [])
def rxILFO_0 (S0 : Nat → Int → Int) (ws : List Int) (S : Nat → Int → Int) : Prop := S = S0 ∧ ws = [480]
def rxmLFO_0 (S0 : Nat → Int → Int) (ws : List Int) (S : Nat → Int → Int) : Nat := 10000
def rxzLFO_0 : rx_Z := ([(0, 0), (0, 0), (0, 0), (0, 0), (0, 0), (0, 0), (0, 0), (0, 0)], [], [], 0, 0, 0, [(0, .inr (3, (0, 480)))], [])
def rxILFO_1 (S0 : Nat → Int → Int) (ws : List Int) (S : Nat → Int → Int) (n r : Int) : Prop := n = (ldLq (S 482 6) (ldrr S) r).length ∧ ldRy S (ldLq (S 482 6) (ldrr S) r)
def rxmLFO_1 (S0 : Nat → Int → Int) (ws : List Int) (S : Nat → Int → Int) (n r : Int) : Nat := 1000 * (6 - r).toNat + 900
def rxzLFO_1 : rx_Z := ([(0, 0), (0, 0), (0, 0), (0, 0), (0, 0), (0, 0), (0, 0), (0, 0), (0, 12), (0, 4)], [], [], 0, 0, 4, [(0, .inr (3, (0, 480))), (1, .inr (0, (8, 0))), (2, .inr (0, (9, 0)))], [])
def rxILFO_2 (S0 : Nat → Int → Int) (ws : List Int) (S : Nat → Int → Int) (n r k : Int) : Prop := k ≤ S 482 6 ∧ n = (ldLi (S 482 6) (ldrr S) r k).length ∧ ldRy S (ldLi (S 482 6) (ldrr S) r k)
def rxmLFO_2 (S0 : Nat → Int → Int) (ws : List Int) (S : Nat → Int → Int) (n r k : Int) : Nat := 1000 * (6 - r).toNat + 10 * (20 - k).toNat + 9
def rxzLFO_2 : rx_Z := ([(0, 0), (0, 0), (0, 0), (0, 0), (0, 0), (0, 0), (0, 0), (0, 0), (0, 12), (0, 3), (0, 12)], [], [], 0, 0, 11, [(0, .inr (3, (0, 480))), (1, .inr (0, (8, 0))), (2, .inr (0, (9, 0))), (3, .inr (0, (10, 0)))], [])
def rxILFO_3 (S0 : Nat → Int → Int) (ws : List Int) (S : Nat → Int → Int) (n r k n2 v : Int) : Prop := n2 = n ∧ v = 742 + 3 * k ∧ S 482 (742 + 3 * k) = r ∧ k < S 482 6 ∧ n = (ldLi (S 482 6) (ldrr S) r k).length ∧ ldRy S (ldLi (S 482 6) (ldrr S) r k)
def rxmLFO_3 (S0 : Nat → Int → Int) (ws : List Int) (S : Nat → Int → Int) (n r k n2 v : Int) : Nat := 1000 * (6 - r).toNat + 10 * (20 - k).toNat + 8
def rxzLFO_3 : rx_Z := ([(0, 0), (0, 0), (0, 0), (0, 0), (0, 0), (0, 0), (0, 0), (0, 0), (0, 11), (0, 3), (0, 11), (0, 11), (742, 775)], [], [], 0, 0, 50, [(0, .inr (3, (0, 480))), (1, .inr (0, (8, 0))), (2, .inr (0, (9, 0))), (3, .inr (0, (10, 0)))], [.inr (0, (12, 0)), .inr (0, (11, 0)), .inr (3, (0, 512))])
def rxoLFO_0_0 : bx_HO := (([(0, 0), (0, 0), (0, 0), (0, 0), (0, 0), (0, 0), (0, 0), (0, 0)], [], [], 0, 0, 4, [(2, .inr (0, (0, 0))), (1, .inr (0, (0, 0))), (0, .inr (3, (0, 480)))], []), [], [], [(0, 0), (0, 0), (0, 0), (0, 0), (0, 0), (0, 0), (0, 0), (0, 0), (0, 0), (0, 0)], 1)
def rxoLFO_1_0 : bx_HO := (([(0, 0), (0, 0), (0, 0), (0, 0), (0, 0), (0, 0), (0, 0), (0, 0), (0, 12), (0, 3)], [], [], 0, 0, 11, [(3, .inr (0, (0, 0))), (0, .inr (3, (0, 480))), (1, .inr (0, (8, 0))), (2, .inr (0, (9, 0)))], []), [], [], [(0, 0), (0, 0), (0, 0), (0, 0), (0, 0), (0, 0), (0, 0), (0, 0), (8, 0), (9, 0), (0, 0)], 2)
def rxeLFO_1_0 : rx_End × List (Nat × Int × Int) := (([(0, 0), (0, 0), (0, 0), (0, 0), (0, 0), (0, 0), (0, 0), (0, 0), (0, 12), (4, 4)], [], [], none), [])
def rxoLFO_2_0 : bx_HO := (([(0, 0), (0, 0), (0, 0), (0, 0), (0, 0), (0, 0), (0, 0), (0, 0), (0, 12), (0, 3), (0, 11), (1, 12), (0, 33), (0, 3), (0, 33)], [(7, (14, 0), (10, 0)), (2, (13, 0), (9, 0)), (7, (12, 0), (10, 0)), (0, (10, 0), (11, 0))], [(((0, 480), 61), .inr (3, (0, 512))), (((0, 0), 1851192626986356946348753516660148118640598684229403945741713408000000), .inr (0, (13, 0))), (((0, 0), 1851192626986356798628580571097672967753946801749054699160600576000000), .inr (0, (11, 0))), (((0, 482), 6), .inr (0, (11, 0))), (((0, 480), 3), .inr (3, (0, 482)))], 0, 0, 50, [(0, .inr (3, (0, 480))), (1, .inr (0, (8, 0))), (2, .inr (0, (9, 0))), (3, .inr (0, (10, 0)))], [.inr (0, (14, 742)), .inr (0, (8, 0)), .inr (3, (0, 512))]), [(8, 0, 11), (8, 0, 11)], [], [(0, 0), (0, 0), (0, 0), (0, 0), (0, 0), (0, 0), (0, 0), (0, 0), (8, 0), (9, 0), (10, 0), (8, 0), (14, 742)], 3)
def rxoLFO_2_1 : bx_HO := (([(0, 0), (0, 0), (0, 0), (0, 0), (0, 0), (0, 0), (0, 0), (0, 0), (0, 12), (0, 3), (0, 11), (1, 12), (0, 33), (0, 3)], [(3, (13, 0), (9, 0)), (7, (12, 0), (10, 0)), (0, (10, 0), (11, 0))], [(((0, 0), 1851192626986356946348753516660148118640598684229403945741713408000000), .inr (0, (13, 0))), (((0, 0), 1851192626986356798628580571097672967753946801749054699160600576000000), .inr (0, (11, 0))), (((0, 482), 6), .inr (0, (11, 0))), (((0, 480), 3), .inr (3, (0, 482)))], 0, 0, 11, [(3, .inr (0, (10, 1))), (0, .inr (3, (0, 480))), (1, .inr (0, (8, 0))), (2, .inr (0, (9, 0)))], []), [], [], [(0, 0), (0, 0), (0, 0), (0, 0), (0, 0), (0, 0), (0, 0), (0, 0), (8, 0), (9, 0), (10, 1)], 2)
def rxoLFO_2_2 : bx_HO := (([(0, 0), (0, 0), (0, 0), (0, 0), (0, 0), (0, 0), (0, 0), (0, 0), (0, 12), (0, 3), (0, 12), (0, 12)], [(1, (11, 0), (10, 0))], [(((0, 0), 1851192626986356798628580571097672967753946801749054699160600576000000), .inr (0, (11, 0))), (((0, 482), 6), .inr (0, (11, 0))), (((0, 480), 3), .inr (3, (0, 482)))], 0, 0, 4, [(2, .inr (0, (9, 1))), (0, .inr (3, (0, 480))), (1, .inr (0, (8, 0))), (3, .inr (0, (10, 0)))], []), [], [], [(0, 0), (0, 0), (0, 0), (0, 0), (0, 0), (0, 0), (0, 0), (0, 0), (8, 0), (9, 1)], 1)
def rxoLFO_3_0 : bx_HO := (([(0, 0), (0, 0), (0, 0), (0, 0), (0, 0), (0, 0), (0, 0), (0, 0), (0, 11), (0, 3), (0, 11), (0, 11), (742, 775)], [], [(((0, 0), 1851192626986356797424374018331344491018900889112178922908286979000000), .inr (0, (12, 0)))], 0, 0, 11, [(3, .inr (0, (10, 1))), (1, .inr (0, (8, 1))), (0, .inr (3, (0, 480))), (2, .inr (0, (9, 0)))], []), [], [], [(0, 0), (0, 0), (0, 0), (0, 0), (0, 0), (0, 0), (0, 0), (0, 0), (8, 1), (9, 0), (10, 1)], 2)
def rxYLFO : List bx_HE := [(rxzLFO_0, [rxoLFO_0_0], []), (rxzLFO_1, [rxoLFO_1_0], [rxeLFO_1_0]), (rxzLFO_2, [rxoLFO_2_0, rxoLFO_2_1, rxoLFO_2_2], []), (rxzLFO_3, [rxoLFO_3_0], [])]
def rxULFO (q : bx_HE) : Bool := false
def rxYBLFO : bx_B := (rxV, rxNP, rxDmf, bx_mdH rxCLFO.2.2.1)
set_option maxRecDepth 100000 in
theorem rxYcLFO : bx_chkH rxYBLFO rxM322 rxCLFO rxYLFO (rxULFO, fun cut z => rx_ex2 (rxCT rxYBLFO rxCnE) cut 30000 rxCLFO.2.2.2.1 322 z) = true := by decide +kernel
def rxILFO (S0 : Nat → Int → Int) (ws : List Int) (i : Nat) : bx_SP := fun S r => match i with | 0 => rxILFO_0 S0 ws S | 1 => rxILFO_1 S0 ws S (r 8) (r 9) | 2 => rxILFO_2 S0 ws S (r 8) (r 9) (r 10) | 3 => rxILFO_3 S0 ws S (r 8) (r 9) (r 10) (r 11) (r 12) | _ => False
def rxmLFO (S0 : Nat → Int → Int) (ws : List Int) (i : Nat) (S : Nat → Int → Int) (r : Nat → Int) : Nat := match i with | 0 => rxmLFO_0 S0 ws S | 1 => rxmLFO_1 S0 ws S (r 8) (r 9) | 2 => rxmLFO_2 S0 ws S (r 8) (r 9) (r 10) | 3 => rxmLFO_3 S0 ws S (r 8) (r 9) (r 10) (r 11) (r 12) | _ => 0
def rxPLFO (S0 : Nat → Int → Int) (ws : List Int) : Prop := True
def rxPSLFO (S0 : Nat → Int → Int) (ws : List Int) (S : Nat → Int → Int) (w : Option Int) : Prop := w = none ∧ ldRy S (ldLq (S 482 6) (ldrr S) 4)
theorem rxcLFO_0_0 {S0 : Nat → Int → Int} {ws : List Int} {S : Nat → Int → Int} (hP : rxPLFO S0 ws) (hin : bx_same rxL (bx_mdl rxCLFO.2.2.1) S0 S) (I0 : bx_Inv rxL S) (hinv : rxILFO_0 S0 ws S)  : (True) ∧ (True) ∧ rxILFO_1 S0 ws S 0 0 ∧ rxmLFO_1 S0 ws S 0 0 < rxmLFO_0 S0 ws S := by
  exact ⟨trivial, trivial, ⟨rfl, fun i x h => by cases h⟩, by unfold rxmLFO_0 rxmLFO_1; omega⟩
theorem rxgLFO_0_0 {X : (Nat → Int → Int) → Prop} {S0 : Nat → Int → Int} {ws : List Int} (hP : rxPLFO S0 ws) : bx_obC rxL X S0 rxCLFO.2.2.1 (rxILFO S0 ws) (rxmLFO S0 ws) 0 rxzLFO_0 rxoLFO_0_0 := by
  intro S S' r r' hinv hX hin hsm_ hseg
  obtain ⟨I0, I1, h0_, hr_, b_, f_, d_⟩ := bx_cl (evs := []) (fvs := []) hseg (by decide +kernel) (by decide +kernel)
  have hinv : rxILFO_0 S0 ws S := hinv
  have w_ := d_
  subst w_
  have g := rxcLFO_0_0 hP hin I0 hinv 
  refine ⟨bx_narP_ok (l := []) g.1, bx_nfP_ok h0_ (fvs := []) (by decide +kernel) g.2.1, ?_, ?_⟩
  · show rxILFO_1 S0 ws S' (bx_val [(0, 0), (0, 0), (0, 0), (0, 0), (0, 0), (0, 0), (0, 0), (0, 0), (0, 0), (0, 0)] r' 8) (bx_val [(0, 0), (0, 0), (0, 0), (0, 0), (0, 0), (0, 0), (0, 0), (0, 0), (0, 0), (0, 0)] r' 9)
    rw [bx_val_x (n := 8) (e := (0, 0)) h0_ rfl, bx_val_x (n := 9) (e := (0, 0)) h0_ rfl]
    exact g.2.2.1
  · show rxmLFO_1 S0 ws S' (bx_val [(0, 0), (0, 0), (0, 0), (0, 0), (0, 0), (0, 0), (0, 0), (0, 0), (0, 0), (0, 0)] r' 8) (bx_val [(0, 0), (0, 0), (0, 0), (0, 0), (0, 0), (0, 0), (0, 0), (0, 0), (0, 0), (0, 0)] r' 9) < rxmLFO_0 S0 ws S'
    rw [bx_val_x (n := 8) (e := (0, 0)) h0_ rfl, bx_val_x (n := 9) (e := (0, 0)) h0_ rfl]
    exact g.2.2.2
theorem rxcLFO_1_0 {S0 : Nat → Int → Int} {ws : List Int} {S : Nat → Int → Int} {n r : Int} (hP : rxPLFO S0 ws) (hin : bx_same rxL (bx_mdl rxCLFO.2.2.1) S0 S) (I0 : bx_Inv rxL S) (hinv : rxILFO_1 S0 ws S n r) (l8 : 0 ≤ n) (u8 : n ≤ 12) (l9 : 0 ≤ r) (u9 : r ≤ 3) : (True) ∧ (True) ∧ rxILFO_2 S0 ws S n r 0 ∧ rxmLFO_2 S0 ws S n r 0 < rxmLFO_1 S0 ws S n r := by
  obtain ⟨h1, h2⟩ := hinv
  have h6 := rxN6 I0
  exact ⟨trivial, trivial, ⟨h6.1, by rw [ldLi_0]; exact h1, by rw [ldLi_0]; exact h2⟩, by unfold rxmLFO_1 rxmLFO_2; omega⟩
theorem rxgLFO_1_0 {X : (Nat → Int → Int) → Prop} {S0 : Nat → Int → Int} {ws : List Int} (hP : rxPLFO S0 ws) : bx_obC rxL X S0 rxCLFO.2.2.1 (rxILFO S0 ws) (rxmLFO S0 ws) 1 rxzLFO_1 rxoLFO_1_0 := by
  intro S S' r r' hinv hX hin hsm_ hseg
  obtain ⟨I0, I1, h0_, hr_, b_, f_, d_⟩ := bx_cl (evs := []) (fvs := []) hseg (by decide +kernel) (by decide +kernel)
  have hinv : rxILFO_1 S0 ws S (r 8) (r 9) := hinv
  rw [← hr_ 8 (by decide), ← hr_ 9 (by decide)] at hinv
  obtain ⟨⟨l8, u8⟩, ⟨l9, u9⟩, -⟩ := b_
  have w_ := d_
  subst w_
  have g := rxcLFO_1_0 hP hin I0 hinv l8 u8 l9 u9
  refine ⟨bx_narP_ok (l := []) g.1, bx_nfP_ok h0_ (fvs := []) (by decide +kernel) g.2.1, ?_, ?_⟩
  · show rxILFO_2 S0 ws S' (bx_val [(0, 0), (0, 0), (0, 0), (0, 0), (0, 0), (0, 0), (0, 0), (0, 0), (8, 0), (9, 0), (0, 0)] r' 8) (bx_val [(0, 0), (0, 0), (0, 0), (0, 0), (0, 0), (0, 0), (0, 0), (0, 0), (8, 0), (9, 0), (0, 0)] r' 9) (bx_val [(0, 0), (0, 0), (0, 0), (0, 0), (0, 0), (0, 0), (0, 0), (0, 0), (8, 0), (9, 0), (0, 0)] r' 10)
    rw [bx_val_x (n := 8) (e := (8, 0)) h0_ rfl, bx_val_x (n := 9) (e := (9, 0)) h0_ rfl, bx_val_x (n := 10) (e := (0, 0)) h0_ rfl]
    exact g.2.2.1
  · show rxmLFO_2 S0 ws S' (bx_val [(0, 0), (0, 0), (0, 0), (0, 0), (0, 0), (0, 0), (0, 0), (0, 0), (8, 0), (9, 0), (0, 0)] r' 8) (bx_val [(0, 0), (0, 0), (0, 0), (0, 0), (0, 0), (0, 0), (0, 0), (0, 0), (8, 0), (9, 0), (0, 0)] r' 9) (bx_val [(0, 0), (0, 0), (0, 0), (0, 0), (0, 0), (0, 0), (0, 0), (0, 0), (8, 0), (9, 0), (0, 0)] r' 10) < rxmLFO_1 S0 ws S' (r 8) (r 9)
    rw [bx_val_x (n := 8) (e := (8, 0)) h0_ rfl, bx_val_x (n := 9) (e := (9, 0)) h0_ rfl, bx_val_x (n := 10) (e := (0, 0)) h0_ rfl, ← hr_ 8 (by decide), ← hr_ 9 (by decide)]
    exact g.2.2.2
theorem rxdLFO_1_0 {S0 : Nat → Int → Int} {ws : List Int} {S : Nat → Int → Int} {n r : Int} (hP : rxPLFO S0 ws) (hin : bx_same rxL (bx_mdl rxCLFO.2.2.1) S0 S) (hin2 : bx_same rxL (bx_mdl rxCLFO.2.2.1) S S) (I0 : bx_Inv rxL S) (I1 : bx_Inv rxL S) (hinv : rxILFO_1 S0 ws S n r) (l8 : 0 ≤ n) (u8 : n ≤ 12) (l9 : 4 ≤ r) (u9 : r ≤ 4) : (True) ∧ rxPSLFO S0 ws S none := by
  have hinv : n = (ldLq (S 482 6) (ldrr S) r).length ∧ ldRy S (ldLq (S 482 6) (ldrr S) r) := hinv
  have hr : r = 4 := by omega
  subst hr
  exact ⟨trivial, rfl, hinv.2⟩
theorem rxfLFO_1_0 {X : (Nat → Int → Int) → Prop} {S0 : Nat → Int → Int} {ws : List Int} (hP : rxPLFO S0 ws) : bx_obE rxL X S0 rxCLFO.2.2.1 (rxILFO S0 ws) (rxPSLFO S0 ws) 1 rxzLFO_1 rxeLFO_1_0 := by
  intro S S' r r' hinv hX hin hsm_ hseg
  obtain ⟨I0, I1, h0_, hr_, b_, f_, d_⟩ := bx_cl (evs := []) (fvs := []) hseg (by decide +kernel) (by decide +kernel)
  have hinv : rxILFO_1 S0 ws S (r 8) (r 9) := hinv
  rw [← hr_ 8 (by decide), ← hr_ 9 (by decide)] at hinv
  obtain ⟨⟨l8, u8⟩, ⟨l9, u9⟩, -⟩ := b_
  have w_ := d_
  subst w_
  have g := rxdLFO_1_0 hP hin hsm_ I0 I1 hinv l8 u8 l9 u9
  refine ⟨bx_narP_ok (l := []) g.1, ?_⟩
  exact g.2
theorem rxcLFO_2_0 {S0 : Nat → Int → Int} {ws : List Int} {S : Nat → Int → Int} {n r k x11 x12 x13 x14 : Int} (hP : rxPLFO S0 ws) (hin : bx_same rxL (bx_mdl rxCLFO.2.2.1) S0 S) (I0 : bx_Inv rxL S) (hinv : rxILFO_2 S0 ws S n r k) (l8 : 0 ≤ n) (u8 : n ≤ 12) (l9 : 0 ≤ r) (u9 : r ≤ 3) (l10 : 0 ≤ k) (u10 : k ≤ 11) (l11 : 1 ≤ x11) (u11 : x11 ≤ 12) (l12 : 0 ≤ x12) (u12 : x12 ≤ 33) (l13 : 0 ≤ x13) (u13 : x13 ≤ 3) (l14 : 0 ≤ x14) (u14 : x14 ≤ 33) (f0 : x14 = 3 * (k)) (f1 : x13 = r) (f2 : x12 = 3 * (k)) (f3 : k < x11) (e1 : S 482 6 = x11) (e0 : S 482 (x12 + 742) = x13) : ((0 ≤ n ∧ n ≤ 11) ∧ (0 ≤ n ∧ n ≤ 11) ∧ True) ∧ (True) ∧ rxILFO_3 S0 ws S n r k n (x14 + 742) ∧ rxmLFO_3 S0 ws S n r k n (x14 + 742) < rxmLFO_2 S0 ws S n r k := by
  obtain ⟨h0, h1, h2⟩ := hinv
  have h6 := rxN6 I0
  have ek : S 482 (742 + 3 * k) = r := by
    rw [show 742 + 3 * k = (x12 + 742) by omega]
    omega
  have e := ldLi_s (n := S 482 6) (r := ldrr S) (q := r) (i := k) (by omega) (by omega)
  rw [if_pos (show ldrr S k = r from ek)] at e
  have hl := ldLi_len (n := S 482 6) (r := ldrr S) (q := r) (i := k + 1) (fun j a b => by have := rxDeed0 I0 (j := j) a (by omega); unfold ldrr; omega) h6.1 (by omega) (by omega) (by omega)
  have hs : ([k] : List Int).length = 1 := rfl
  rw [e, List.length_append, hs] at hl
  exact ⟨⟨by omega, by omega, trivial⟩, trivial, ⟨rfl, by omega, ek, by omega, h1, h2⟩, by unfold rxmLFO_2 rxmLFO_3; omega⟩
theorem rxgLFO_2_0 {X : (Nat → Int → Int) → Prop} {S0 : Nat → Int → Int} {ws : List Int} (hP : rxPLFO S0 ws) : bx_obC rxL X S0 rxCLFO.2.2.1 (rxILFO S0 ws) (rxmLFO S0 ws) 2 rxzLFO_2 rxoLFO_2_0 := by
  intro S S' r r' hinv hX hin hsm_ hseg
  obtain ⟨I0, I1, h0_, hr_, b_, f_, d_⟩ := bx_cl (evs := [(0, (0, 482), (12, 742), .inr (0, (13, 0))), (0, (0, 482), (0, 6), .inr (0, (11, 0)))]) (fvs := [(4, (14, 0), (10, 0), (0, 3)), (2, (13, 0), (9, 0), (0, 0)), (4, (12, 0), (10, 0), (0, 3)), (0, (10, 0), (11, 0), (0, 0))]) hseg (by decide +kernel) (by decide +kernel)
  have hinv : rxILFO_2 S0 ws S (r 8) (r 9) (r 10) := hinv
  rw [← hr_ 8 (by decide), ← hr_ 9 (by decide), ← hr_ 10 (by decide)] at hinv
  obtain ⟨⟨l8, u8⟩, ⟨l9, u9⟩, ⟨l10, u10⟩, ⟨l11, u11⟩, ⟨l12, u12⟩, ⟨l13, u13⟩, ⟨l14, u14⟩, -⟩ := b_
  obtain ⟨f0, f1, f2, f3, -⟩ := f_
  obtain ⟨e0, ⟨e1, w_⟩⟩ := d_
  subst w_
  have g := rxcLFO_2_0 hP hin I0 hinv l8 u8 l9 u9 l10 u10 l11 u11 l12 u12 l13 u13 l14 u14 f0 f1 f2 f3 e1 e0
  refine ⟨bx_narP_ok (l := [(8, 0, 11), (8, 0, 11)]) g.1, bx_nfP_ok h0_ (fvs := []) (by decide +kernel) g.2.1, ?_, ?_⟩
  · show rxILFO_3 S0 ws S' (bx_val [(0, 0), (0, 0), (0, 0), (0, 0), (0, 0), (0, 0), (0, 0), (0, 0), (8, 0), (9, 0), (10, 0), (8, 0), (14, 742)] r' 8) (bx_val [(0, 0), (0, 0), (0, 0), (0, 0), (0, 0), (0, 0), (0, 0), (0, 0), (8, 0), (9, 0), (10, 0), (8, 0), (14, 742)] r' 9) (bx_val [(0, 0), (0, 0), (0, 0), (0, 0), (0, 0), (0, 0), (0, 0), (0, 0), (8, 0), (9, 0), (10, 0), (8, 0), (14, 742)] r' 10) (bx_val [(0, 0), (0, 0), (0, 0), (0, 0), (0, 0), (0, 0), (0, 0), (0, 0), (8, 0), (9, 0), (10, 0), (8, 0), (14, 742)] r' 11) (bx_val [(0, 0), (0, 0), (0, 0), (0, 0), (0, 0), (0, 0), (0, 0), (0, 0), (8, 0), (9, 0), (10, 0), (8, 0), (14, 742)] r' 12)
    rw [bx_val_x (n := 8) (e := (8, 0)) h0_ rfl, bx_val_x (n := 9) (e := (9, 0)) h0_ rfl, bx_val_x (n := 10) (e := (10, 0)) h0_ rfl, bx_val_x (n := 11) (e := (8, 0)) h0_ rfl, bx_val_x (n := 12) (e := (14, 742)) h0_ rfl]
    exact g.2.2.1
  · show rxmLFO_3 S0 ws S' (bx_val [(0, 0), (0, 0), (0, 0), (0, 0), (0, 0), (0, 0), (0, 0), (0, 0), (8, 0), (9, 0), (10, 0), (8, 0), (14, 742)] r' 8) (bx_val [(0, 0), (0, 0), (0, 0), (0, 0), (0, 0), (0, 0), (0, 0), (0, 0), (8, 0), (9, 0), (10, 0), (8, 0), (14, 742)] r' 9) (bx_val [(0, 0), (0, 0), (0, 0), (0, 0), (0, 0), (0, 0), (0, 0), (0, 0), (8, 0), (9, 0), (10, 0), (8, 0), (14, 742)] r' 10) (bx_val [(0, 0), (0, 0), (0, 0), (0, 0), (0, 0), (0, 0), (0, 0), (0, 0), (8, 0), (9, 0), (10, 0), (8, 0), (14, 742)] r' 11) (bx_val [(0, 0), (0, 0), (0, 0), (0, 0), (0, 0), (0, 0), (0, 0), (0, 0), (8, 0), (9, 0), (10, 0), (8, 0), (14, 742)] r' 12) < rxmLFO_2 S0 ws S' (r 8) (r 9) (r 10)
    rw [bx_val_x (n := 8) (e := (8, 0)) h0_ rfl, bx_val_x (n := 9) (e := (9, 0)) h0_ rfl, bx_val_x (n := 10) (e := (10, 0)) h0_ rfl, bx_val_x (n := 11) (e := (8, 0)) h0_ rfl, bx_val_x (n := 12) (e := (14, 742)) h0_ rfl, ← hr_ 8 (by decide), ← hr_ 9 (by decide), ← hr_ 10 (by decide)]
    exact g.2.2.2
theorem rxcLFO_2_1 {S0 : Nat → Int → Int} {ws : List Int} {S : Nat → Int → Int} {n r k x11 x12 x13 : Int} (hP : rxPLFO S0 ws) (hin : bx_same rxL (bx_mdl rxCLFO.2.2.1) S0 S) (I0 : bx_Inv rxL S) (hinv : rxILFO_2 S0 ws S n r k) (l8 : 0 ≤ n) (u8 : n ≤ 12) (l9 : 0 ≤ r) (u9 : r ≤ 3) (l10 : 0 ≤ k) (u10 : k ≤ 11) (l11 : 1 ≤ x11) (u11 : x11 ≤ 12) (l12 : 0 ≤ x12) (u12 : x12 ≤ 33) (l13 : 0 ≤ x13) (u13 : x13 ≤ 3) (f0 : x13 ≠ r) (f1 : x12 = 3 * (k)) (f2 : k < x11) (e1 : S 482 6 = x11) (e0 : S 482 (x12 + 742) = x13) : (True) ∧ (True) ∧ rxILFO_2 S0 ws S n r (k + 1) ∧ rxmLFO_2 S0 ws S n r (k + 1) < rxmLFO_2 S0 ws S n r k := by
  obtain ⟨h0, h1, h2⟩ := hinv
  have h6 := rxN6 I0
  have ek : S 482 (742 + 3 * k) ≠ r := by
    rw [show 742 + 3 * k = (x12 + 742) by omega]
    omega
  have e := ldLi_s (n := S 482 6) (r := ldrr S) (q := r) (i := k) (by omega) (by omega)
  rw [if_neg (show ¬ ldrr S k = r from ek)] at e
  exact ⟨by first | trivial | exact ⟨by omega, trivial⟩, trivial, ⟨by omega, by rw [e]; exact h1, by rw [e]; exact h2⟩, by unfold rxmLFO_2; omega⟩
theorem rxgLFO_2_1 {X : (Nat → Int → Int) → Prop} {S0 : Nat → Int → Int} {ws : List Int} (hP : rxPLFO S0 ws) : bx_obC rxL X S0 rxCLFO.2.2.1 (rxILFO S0 ws) (rxmLFO S0 ws) 2 rxzLFO_2 rxoLFO_2_1 := by
  intro S S' r r' hinv hX hin hsm_ hseg
  obtain ⟨I0, I1, h0_, hr_, b_, f_, d_⟩ := bx_cl (evs := [(0, (0, 482), (12, 742), .inr (0, (13, 0))), (0, (0, 482), (0, 6), .inr (0, (11, 0)))]) (fvs := [(3, (13, 0), (9, 0), (0, 0)), (4, (12, 0), (10, 0), (0, 3)), (0, (10, 0), (11, 0), (0, 0))]) hseg (by decide +kernel) (by decide +kernel)
  have hinv : rxILFO_2 S0 ws S (r 8) (r 9) (r 10) := hinv
  rw [← hr_ 8 (by decide), ← hr_ 9 (by decide), ← hr_ 10 (by decide)] at hinv
  obtain ⟨⟨l8, u8⟩, ⟨l9, u9⟩, ⟨l10, u10⟩, ⟨l11, u11⟩, ⟨l12, u12⟩, ⟨l13, u13⟩, -⟩ := b_
  obtain ⟨f0, f1, f2, -⟩ := f_
  obtain ⟨e0, ⟨e1, w_⟩⟩ := d_
  subst w_
  have g := rxcLFO_2_1 hP hin I0 hinv l8 u8 l9 u9 l10 u10 l11 u11 l12 u12 l13 u13 f0 f1 f2 e1 e0
  refine ⟨bx_narP_ok (l := []) g.1, bx_nfP_ok h0_ (fvs := []) (by decide +kernel) g.2.1, ?_, ?_⟩
  · show rxILFO_2 S0 ws S' (bx_val [(0, 0), (0, 0), (0, 0), (0, 0), (0, 0), (0, 0), (0, 0), (0, 0), (8, 0), (9, 0), (10, 1)] r' 8) (bx_val [(0, 0), (0, 0), (0, 0), (0, 0), (0, 0), (0, 0), (0, 0), (0, 0), (8, 0), (9, 0), (10, 1)] r' 9) (bx_val [(0, 0), (0, 0), (0, 0), (0, 0), (0, 0), (0, 0), (0, 0), (0, 0), (8, 0), (9, 0), (10, 1)] r' 10)
    rw [bx_val_x (n := 8) (e := (8, 0)) h0_ rfl, bx_val_x (n := 9) (e := (9, 0)) h0_ rfl, bx_val_x (n := 10) (e := (10, 1)) h0_ rfl]
    exact g.2.2.1
  · show rxmLFO_2 S0 ws S' (bx_val [(0, 0), (0, 0), (0, 0), (0, 0), (0, 0), (0, 0), (0, 0), (0, 0), (8, 0), (9, 0), (10, 1)] r' 8) (bx_val [(0, 0), (0, 0), (0, 0), (0, 0), (0, 0), (0, 0), (0, 0), (0, 0), (8, 0), (9, 0), (10, 1)] r' 9) (bx_val [(0, 0), (0, 0), (0, 0), (0, 0), (0, 0), (0, 0), (0, 0), (0, 0), (8, 0), (9, 0), (10, 1)] r' 10) < rxmLFO_2 S0 ws S' (r 8) (r 9) (r 10)
    rw [bx_val_x (n := 8) (e := (8, 0)) h0_ rfl, bx_val_x (n := 9) (e := (9, 0)) h0_ rfl, bx_val_x (n := 10) (e := (10, 1)) h0_ rfl, ← hr_ 8 (by decide), ← hr_ 9 (by decide), ← hr_ 10 (by decide)]
    exact g.2.2.2
theorem rxcLFO_2_2 {S0 : Nat → Int → Int} {ws : List Int} {S : Nat → Int → Int} {n r k x11 : Int} (hP : rxPLFO S0 ws) (hin : bx_same rxL (bx_mdl rxCLFO.2.2.1) S0 S) (I0 : bx_Inv rxL S) (hinv : rxILFO_2 S0 ws S n r k) (l8 : 0 ≤ n) (u8 : n ≤ 12) (l9 : 0 ≤ r) (u9 : r ≤ 3) (l10 : 0 ≤ k) (u10 : k ≤ 12) (l11 : 0 ≤ x11) (u11 : x11 ≤ 12) (f0 : x11 ≤ k) (e0 : S 482 6 = x11) : (True) ∧ (True) ∧ rxILFO_1 S0 ws S n (r + 1) ∧ rxmLFO_1 S0 ws S n (r + 1) < rxmLFO_2 S0 ws S n r k := by
  obtain ⟨h0, h1, h2⟩ := hinv
  have hk : k = S 482 6 := by omega
  rw [hk, ldLi_n (by omega)] at h1 h2
  exact ⟨trivial, trivial, ⟨h1, h2⟩, by unfold rxmLFO_2 rxmLFO_1; omega⟩
theorem rxgLFO_2_2 {X : (Nat → Int → Int) → Prop} {S0 : Nat → Int → Int} {ws : List Int} (hP : rxPLFO S0 ws) : bx_obC rxL X S0 rxCLFO.2.2.1 (rxILFO S0 ws) (rxmLFO S0 ws) 2 rxzLFO_2 rxoLFO_2_2 := by
  intro S S' r r' hinv hX hin hsm_ hseg
  obtain ⟨I0, I1, h0_, hr_, b_, f_, d_⟩ := bx_cl (evs := [(0, (0, 482), (0, 6), .inr (0, (11, 0)))]) (fvs := [(1, (11, 0), (10, 0), (0, 0))]) hseg (by decide +kernel) (by decide +kernel)
  have hinv : rxILFO_2 S0 ws S (r 8) (r 9) (r 10) := hinv
  rw [← hr_ 8 (by decide), ← hr_ 9 (by decide), ← hr_ 10 (by decide)] at hinv
  obtain ⟨⟨l8, u8⟩, ⟨l9, u9⟩, ⟨l10, u10⟩, ⟨l11, u11⟩, -⟩ := b_
  obtain ⟨f0, -⟩ := f_
  obtain ⟨e0, w_⟩ := d_
  subst w_
  have g := rxcLFO_2_2 hP hin I0 hinv l8 u8 l9 u9 l10 u10 l11 u11 f0 e0
  refine ⟨bx_narP_ok (l := []) g.1, bx_nfP_ok h0_ (fvs := []) (by decide +kernel) g.2.1, ?_, ?_⟩
  · show rxILFO_1 S0 ws S' (bx_val [(0, 0), (0, 0), (0, 0), (0, 0), (0, 0), (0, 0), (0, 0), (0, 0), (8, 0), (9, 1)] r' 8) (bx_val [(0, 0), (0, 0), (0, 0), (0, 0), (0, 0), (0, 0), (0, 0), (0, 0), (8, 0), (9, 1)] r' 9)
    rw [bx_val_x (n := 8) (e := (8, 0)) h0_ rfl, bx_val_x (n := 9) (e := (9, 1)) h0_ rfl]
    exact g.2.2.1
  · show rxmLFO_1 S0 ws S' (bx_val [(0, 0), (0, 0), (0, 0), (0, 0), (0, 0), (0, 0), (0, 0), (0, 0), (8, 0), (9, 1)] r' 8) (bx_val [(0, 0), (0, 0), (0, 0), (0, 0), (0, 0), (0, 0), (0, 0), (0, 0), (8, 0), (9, 1)] r' 9) < rxmLFO_2 S0 ws S' (r 8) (r 9) (r 10)
    rw [bx_val_x (n := 8) (e := (8, 0)) h0_ rfl, bx_val_x (n := 9) (e := (9, 1)) h0_ rfl, ← hr_ 8 (by decide), ← hr_ 9 (by decide), ← hr_ 10 (by decide)]
    exact g.2.2.2
theorem rxcLFO_3_0 {S0 : Nat → Int → Int} {ws : List Int} {S : Nat → Int → Int} {n r k n2 v : Int} (hP : rxPLFO S0 ws) (hin : bx_same rxL (bx_mdl rxCLFO.2.2.1) S0 S) (I0 : bx_Inv rxL S) (hinv : rxILFO_3 S0 ws S n r k n2 v) (l8 : 0 ≤ n) (u8 : n ≤ 11) (l9 : 0 ≤ r) (u9 : r ≤ 3) (l10 : 0 ≤ k) (u10 : k ≤ 11) (l11 : 0 ≤ n2) (u11 : n2 ≤ 11) (l12 : 742 ≤ v) (u12 : v ≤ 775) : (True) ∧ (True) ∧ rxILFO_2 S0 ws (bx_up S 512 n2 v) (n + 1) r (k + 1) ∧ rxmLFO_2 S0 ws (bx_up S 512 n2 v) (n + 1) r (k + 1) < rxmLFO_3 S0 ws S n r k n2 v := by
  obtain ⟨hn2, hv, hd, hk, h1, h2⟩ := hinv
  have q : (bx_up S 512 n2 v) 482 = S 482 := bx_up_row (by omega)
  have qr : ldrr (bx_up S 512 n2 v) = ldrr S := by
    unfold ldrr
    rw [q]
  have e := ldLi_s (n := S 482 6) (r := ldrr S) (q := r) (i := k) (by omega) (by omega)
  rw [if_pos (show ldrr S k = r from hd)] at e
  have hs : ([k] : List Int).length = 1 := rfl
  refine ⟨by first | trivial | exact ⟨by omega, trivial⟩, trivial, ⟨by rw [q]; omega, ?_, ?_⟩, by unfold rxmLFO_3 rxmLFO_2; omega⟩
  · rw [q, qr, e, List.length_append, hs]
    omega
  · rw [q, qr, e]
    refine ldH_app h2 (fun i x hi h => ?_) ?_
    · rw [bx_up_ne (by omega)]
      exact h
    · rw [show (((ldLi (S 482 6) (ldrr S) r k).length : Nat) : Int) = n2 by omega, bx_up_at]
      exact hv
theorem rxgLFO_3_0 {X : (Nat → Int → Int) → Prop} {S0 : Nat → Int → Int} {ws : List Int} (hP : rxPLFO S0 ws) : bx_obC rxL X S0 rxCLFO.2.2.1 (rxILFO S0 ws) (rxmLFO S0 ws) 3 rxzLFO_3 rxoLFO_3_0 := by
  intro S S' r r' hinv hX hin hsm_ hseg
  obtain ⟨I0, I1, h0_, hr_, b_, f_, d_⟩ := bx_cl (evs := [(1, (0, 512), (11, 0), .inr (0, (12, 0)))]) (fvs := []) hseg (by decide +kernel) (by decide +kernel)
  have hinv : rxILFO_3 S0 ws S (r 8) (r 9) (r 10) (r 11) (r 12) := hinv
  rw [← hr_ 8 (by decide), ← hr_ 9 (by decide), ← hr_ 10 (by decide), ← hr_ 11 (by decide), ← hr_ 12 (by decide)] at hinv
  obtain ⟨⟨l8, u8⟩, ⟨l9, u9⟩, ⟨l10, u10⟩, ⟨l11, u11⟩, ⟨l12, u12⟩, -⟩ := b_
  obtain ⟨T0, w_, w0⟩ := d_
  subst w0
  subst w_
  have g := rxcLFO_3_0 hP hin I0 hinv l8 u8 l9 u9 l10 u10 l11 u11 l12 u12
  refine ⟨bx_narP_ok (l := []) g.1, bx_nfP_ok h0_ (fvs := []) (by decide +kernel) g.2.1, ?_, ?_⟩
  · show rxILFO_2 S0 ws (bx_up T0 512 (r' 11) (r' 12)) (bx_val [(0, 0), (0, 0), (0, 0), (0, 0), (0, 0), (0, 0), (0, 0), (0, 0), (8, 1), (9, 0), (10, 1)] r' 8) (bx_val [(0, 0), (0, 0), (0, 0), (0, 0), (0, 0), (0, 0), (0, 0), (0, 0), (8, 1), (9, 0), (10, 1)] r' 9) (bx_val [(0, 0), (0, 0), (0, 0), (0, 0), (0, 0), (0, 0), (0, 0), (0, 0), (8, 1), (9, 0), (10, 1)] r' 10)
    rw [bx_val_x (n := 8) (e := (8, 1)) h0_ rfl, bx_val_x (n := 9) (e := (9, 0)) h0_ rfl, bx_val_x (n := 10) (e := (10, 1)) h0_ rfl]
    exact g.2.2.1
  · show rxmLFO_2 S0 ws (bx_up T0 512 (r' 11) (r' 12)) (bx_val [(0, 0), (0, 0), (0, 0), (0, 0), (0, 0), (0, 0), (0, 0), (0, 0), (8, 1), (9, 0), (10, 1)] r' 8) (bx_val [(0, 0), (0, 0), (0, 0), (0, 0), (0, 0), (0, 0), (0, 0), (0, 0), (8, 1), (9, 0), (10, 1)] r' 9) (bx_val [(0, 0), (0, 0), (0, 0), (0, 0), (0, 0), (0, 0), (0, 0), (0, 0), (8, 1), (9, 0), (10, 1)] r' 10) < rxmLFO_3 S0 ws T0 (r 8) (r 9) (r 10) (r 11) (r 12)
    rw [bx_val_x (n := 8) (e := (8, 1)) h0_ rfl, bx_val_x (n := 9) (e := (9, 0)) h0_ rfl, bx_val_x (n := 10) (e := (10, 1)) h0_ rfl, ← hr_ 8 (by decide), ← hr_ 9 (by decide), ← hr_ 10 (by decide), ← hr_ 11 (by decide), ← hr_ 12 (by decide)]
    exact g.2.2.2
theorem rxgCLFO {X : (Nat → Int → Int) → Prop} {S0 : Nat → Int → Int} {ws : List Int} (hP : rxPLFO S0 ws) : bx_allI (fun i q => rxULFO q = true ∨ bx_allP (fun o => bx_obC rxL X S0 rxCLFO.2.2.1 (rxILFO S0 ws) (rxmLFO S0 ws) i q.1 o) q.2.1) 0 rxYLFO := ⟨Or.inr ⟨rxgLFO_0_0 hP, trivial⟩, Or.inr ⟨rxgLFO_1_0 hP, trivial⟩, Or.inr ⟨rxgLFO_2_0 hP, rxgLFO_2_1 hP, rxgLFO_2_2 hP, trivial⟩, Or.inr ⟨rxgLFO_3_0 hP, trivial⟩, trivial⟩
theorem rxgELFO {X : (Nat → Int → Int) → Prop} {S0 : Nat → Int → Int} {ws : List Int} (hP : rxPLFO S0 ws) : bx_allI (fun i q => rxULFO q = true ∨ bx_allP (fun E => bx_obE rxL X S0 rxCLFO.2.2.1 (rxILFO S0 ws) (rxPSLFO S0 ws) i q.1 E) q.2.2) 0 rxYLFO := ⟨Or.inr trivial, Or.inr ⟨rxfLFO_1_0 hP, trivial⟩, Or.inr trivial, Or.inr trivial, trivial⟩
theorem rxQLFO {PX : State → Prop} {Dg : va_G} {A : Nat → Prop} {ad xa : Nat → Nat} {l : Launch} {X : (Nat → Int → Int) → Prop} (hPX : rx_PXOK rxNW A PX) (hsl : ∀ s : State, PX s → ∀ o idx n : Nat, rxSl o idx = some n → ∃ tx : String, vk_R (rxNm o) idx tx (ad n) s)
    (hX : ∀ S S' : Nat → Int → Int, X S → bx_same rxL (bx_mdl rxCLFO.2.2.1) S S' → X S')
    (ih : ∀ (j2 : Nat) (ct2 : bx_Ct) (M2 : rx_Mt), ct2 ∈ rxCnE j2 → ct2.2.2.2.1 + 1 ≤ rxCLFO.2.2.2.1 → rxT.2.2.2.2.2 j2 = some M2 → bx_Con rxG rxNW rxAO PX Dg rxL X vwCl A ad l M2 ct2) : bx_ConP rxG rxNW rxAO PX Dg rxL X vwCl A ad l rxM322 rxCLFO rxPLFO rxPSLFO :=
  rxQof (xa := xa) (Cn := rxCnE) (f := 30000) (j := 322) (tab := rxYLFO) (us := rxULFO) hPX hsl hX ih rfl rxYcLFO rxILFO rxmLFO
    (fun S0 ws r I0 I ht0 ht as he he1 hX0 hI0 hP hs ha => by
      have e := he.symm.trans (show bx_ent0 rxNP rxCLFO.1 bx_I0 [] = some ([(0, 0), (0, 0), (0, 0), (0, 0), (0, 0), (0, 0), (0, 0), (0, 0)], [], [.inr (3, (0, 480))]) from rfl)
      cases e
      subst ha
      have h0 : r 0 = 0 := hs.1
      show rxILFO_0 S0 _ S0
      refine ⟨rfl, ?_⟩
      simp only [List.map_cons, List.map_nil, bx_xv_ok h0]
      rfl)
    (fun S0 ws hP => fun i q hq hus => absurd (show false = true from hus) Bool.false_ne_true) (fun S0 ws hP => rxgCLFO hP) (fun S0 ws hP => rxgELFO hP)
