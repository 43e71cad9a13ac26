/-! LEAST, the reference: a way is met -/
def ldMz (S : Nat → Int → Int) (row k z : Int) : Prop := (z = -1 ∧ ∀ i : Int, 0 ≤ i → i < k → ldrR S i = row → ¬ rxLast S i) ∨ (0 ≤ z ∧ z < k ∧ ldrR S z = row ∧ ∀ i : Int, z < i → i < k → ldrR S i = row → ¬ rxLast S i)
def ldU69 (S0 S : Nat → Int → Int) : Prop := S 480 69 = S0 480 69 + 1 ∧ ∀ (p : Nat) (j : Int), ¬ (p = 480 ∧ (j = 69 ∨ j = 70)) → S p j = S0 p j
def ldgs (m cue st : Int) (a : Int → Int) (x : Int) : Nat := ((if 0 < x then ldg m cue st a 0 else 0) ||| (if 1 < x then ldg m cue st a 1 else 0)) ||| (if 2 < x then ldg m cue st a 2 else 0)
theorem ldgs_s {m cue st x : Int} {a : Int → Int} (h0 : 0 ≤ x) (h1 : x ≤ 2) : ldgs m cue st a (x + 1) = ldgs m cue st a x ||| ldg m cue st a x := by
  have hx : x = 0 ∨ x = 1 ∨ x = 2 := by omega
  rcases hx with rfl | rfl | rfl <;> unfold ldgs <;> simp
theorem ldgs_e {m cue z x : Int} {C a g p : Int → Int} (h : m ≤ x) : ldgs m cue (lds z C g p) a x = ldl m cue z C a g p := by
  have key : ∀ y : Int, (if y < x then ldg m cue (lds z C g p) a y else 0) = ldg m cue (lds z C g p) a y := fun y => by
    by_cases hy : y < x
    · rw [if_pos hy]
    · rw [if_neg hy]
      exact (if_neg (by omega)).symm
  unfold ldgs ldl
  rw [key, key, key]
theorem ldgs_le {m cue st x : Int} {a : Int → Int} : ldgs m cue st a x ≤ 1023 := by
  have q : ∀ (c : Prop) (y : Int) [Decidable c], (if c then ldg m cue st a y else 0) ≤ 1023 := fun c y _ => by
    split
    · exact ldg_le
    · omega
  exact ldor_le (ldor_le (q _ _) (q _ _)) (q _ _)
theorem ldMz_E {S : Nat → Int → Int} {D : ldD} (hn : D.2.1 = S 482 6) (hR : D.2.2.2.2.1 = ldt (S 482 6) (ldrR S)) {k : Int} (h0 : 0 ≤ k) (h1 : k < S 482 6) : ldE D k ↔ rxLast S k := by
  unfold rxLast
  show (k + 1 = D.2.1 ∨ D.2.2.2.2.1 (k + 1) ≠ D.2.2.2.2.1 k) ↔ _
  rw [hn, hR, ldt_at h0 h1]
  by_cases hk : k + 1 = S 482 6
  · exact ⟨fun _ => Or.inl (by omega), fun _ => Or.inl hk⟩
  · rw [ldt_at (by omega) (by omega)]
    constructor
    · rintro (q | q)
      · exact absurd q hk
      · exact Or.inr q
    · rintro (q | q)
      · exact absurd (by omega) hk
      · exact Or.inr q
theorem ldMz_Z {S : Nat → Int → Int} {row z : Int} (h : ldMz S row (S 482 6) z) : ldZ (S 482 6) (ldt (S 482 6) (ldrR S)) row z := by
  have nz : ∀ (lo : Int), 0 ≤ lo → (∀ i : Int, lo ≤ i → i < S 482 6 → ldrR S i = row → ¬ rxLast S i) → ∀ i : Int, lo ≤ i → i < S 482 6 → ldt (S 482 6) (ldrR S) i ≠ row := fun lo hlo h i a b => by
    refine ldZ_no (D := (0, S 482 6, ldt 0 (ldrR S), ldt 0 (ldrR S), ldt (S 482 6) (ldrR S), fun _ _ _ => 0)) (row := row) (lo := lo) (fun y c d e => ?_) (S 482 6 - i).toNat i a b (Nat.le_refl _)
    have c2 : y < S 482 6 := d
    have e2 : ldt (S 482 6) (ldrR S) y = row := e
    rw [ldt_at (by omega) c2] at e2
    exact fun q => h y c c2 e2 ((ldMz_E (S := S) rfl rfl (by omega) c2).mp q)
  rcases h with ⟨a1, a2⟩ | ⟨a1, a2, a3, a4⟩
  · exact Or.inl ⟨a1, nz 0 (by omega) a2⟩
  · exact Or.inr ⟨a1, a2, by rw [ldt_at a1 a2]; exact a3, fun i b c => nz (z + 1) (by omega) (fun y d e => a4 y (by omega) e) i (by omega) c⟩
theorem ldU69_R {S0 S : Nat → Int → Int} (h : ldU69 S0 S) (p : Nat) (hp : p ≠ 480) : S p = S0 p := funext fun j => h.2 p j (fun q => hp q.1)
theorem ldMz_s {S : Nat → Int → Int} {row k z : Int} (hk : 0 ≤ k) (h : ldMz S row k z) (hn : ldrR S k = row → ¬ rxLast S k) : ldMz S row (k + 1) z := by
  rcases h with ⟨a1, a2⟩ | ⟨a1, a2, a3, a4⟩
  · refine Or.inl ⟨a1, fun i b c => ?_⟩
    by_cases hi : i = k
    · rw [hi]
      exact hn
    · exact a2 i b (by omega)
  · refine Or.inr ⟨a1, by omega, a3, fun i b c => ?_⟩
    by_cases hi : i = k
    · rw [hi]
      exact hn
    · exact a4 i b (by omega)
/-! CONTRACT BY HAND, by program (wip/sim/genhand.py): DeadUnderstudiesModel.meet -/
def rxCLME : bx_Ct := ([(3, (1, 480, 0)), (0, (0, 1, 3)), (0, (0, 0, 3)), (0, (0, 0, 5))], none, [(12, 69), (12, 70)], 1, [])
def rxILME_0 (S0 : Nat → Int → Int) (ws : List Int) (S : Nat → Int → Int) (m row1 cue : Int) : Prop := S = S0 ∧ ws = [480, m, row1, cue]
def rxmLME_0 (S0 : Nat → Int → Int) (ws : List Int) (S : Nat → Int → Int) (m row1 cue : Int) : Nat := 100000
def rxzLME_0 : rx_Z := ([(0, 0), (0, 0), (0, 0), (0, 0), (0, 0), (0, 0), (0, 0), (0, 0), (1, 3), (0, 3), (0, 5)], [], [], 0, 0, 0, [(0, .inr (3, (0, 480))), (1, .inr (0, (8, 0))), (2, .inr (0, (9, 0))), (3, .inr (0, (10, 0)))], [])
def rxILME_1 (S0 : Nat → Int → Int) (ws : List Int) (S : Nat → Int → Int) (m row1 cue wy : Int) : Prop := S = S0 ∧ ws = [480, m, row1, cue] ∧ wy = S 480 69
def rxmLME_1 (S0 : Nat → Int → Int) (ws : List Int) (S : Nat → Int → Int) (m row1 cue wy : Int) : Nat := 90000
def rxzLME_1 : rx_Z := ([(0, 0), (0, 0), (0, 0), (0, 0), (0, 0), (0, 0), (0, 0), (0, 0), (1, 3), (0, 3), (0, 5), (0, 600000)], [], [], 0, 0, 5, [(0, .inr (3, (0, 480))), (1, .inr (0, (8, 0))), (2, .inr (0, (9, 0))), (3, .inr (0, (10, 0)))], [.inr (0, (11, 0)), .inr (3, (0, 480))])
def rxILME_2 (S0 : Nat → Int → Int) (ws : List Int) (S : Nat → Int → Int) (m row1 cue st k : Int) : Prop := ldU69 S0 S ∧ S 480 70 = S0 480 70 ∧ ws = [480, m, row1, cue] ∧ k ≤ S0 482 6 ∧ (∃ z : Int, ldMz S0 row1 k z ∧ st = lds z (ldrC S0) (S0 515) (S0 513))
def rxmLME_2 (S0 : Nat → Int → Int) (ws : List Int) (S : Nat → Int → Int) (m row1 cue st k : Int) : Nat := 1000 + 100 * (20 - k).toNat + 90
def rxzLME_2 : rx_Z := ([(0, 0), (0, 0), (0, 0), (0, 0), (0, 0), (0, 0), (0, 0), (0, 0), (1, 3), (0, 3), (0, 5), ((-1), 2), (0, 12)], [], [], 0, 0, 16, [(0, .inr (3, (0, 480))), (1, .inr (0, (8, 0))), (2, .inr (0, (9, 0))), (3, .inr (0, (10, 0))), (4, .inr (0, (11, 0))), (5, .inr (0, (12, 0)))], [])
def rxILME_3 (S0 : Nat → Int → Int) (ws : List Int) (S : Nat → Int → Int) (m row1 cue st k a : Int) : Prop := a = k ∧ k < S0 482 6 ∧ ldrR S0 k = row1 ∧ ldU69 S0 S ∧ S 480 70 = S0 480 70 ∧ ws = [480, m, row1, cue] ∧ (∃ z : Int, ldMz S0 row1 k z ∧ st = lds z (ldrC S0) (S0 515) (S0 513))
def rxmLME_3 (S0 : Nat → Int → Int) (ws : List Int) (S : Nat → Int → Int) (m row1 cue st k a : Int) : Nat := 1000 + 100 * (20 - k).toNat + 80
def rxzLME_3 : rx_Z := ([(0, 0), (0, 0), (0, 0), (0, 0), (0, 0), (0, 0), (0, 0), (0, 0), (1, 3), (0, 3), (0, 5), ((-1), 2), (0, 11), (0, 11)], [], [], 0, 0, 47, [(0, .inr (3, (0, 480))), (1, .inr (0, (8, 0))), (2, .inr (0, (9, 0))), (3, .inr (0, (10, 0))), (4, .inr (0, (11, 0))), (5, .inr (0, (12, 0)))], [.inr (0, (13, 0)), .inr (3, (0, 480))])
def rxILME_4 (S0 : Nat → Int → Int) (ws : List Int) (S : Nat → Int → Int) (m row1 cue st k a il : Int) : Prop := (il = 1 → rxLast S0 k) ∧ (il = 0 → ¬ rxLast S0 k) ∧ k < S0 482 6 ∧ ldrR S0 k = row1 ∧ ldU69 S0 S ∧ S 480 70 = S0 480 70 ∧ ws = [480, m, row1, cue] ∧ (∃ z : Int, ldMz S0 row1 k z ∧ st = lds z (ldrC S0) (S0 515) (S0 513))
def rxmLME_4 (S0 : Nat → Int → Int) (ws : List Int) (S : Nat → Int → Int) (m row1 cue st k a il : Int) : Nat := 1000 + 100 * (20 - k).toNat + 70
def rxzLME_4 : rx_Z := ([(0, 0), (0, 0), (0, 0), (0, 0), (0, 0), (0, 0), (0, 0), (0, 0), (1, 3), (0, 3), (0, 5), ((-1), 2), (0, 11), (0, 11), (0, 1)], [], [], 0, 0, 50, [(0, .inr (3, (0, 480))), (1, .inr (0, (8, 0))), (2, .inr (0, (9, 0))), (3, .inr (0, (10, 0))), (4, .inr (0, (11, 0))), (5, .inr (0, (12, 0)))], [.inr (0, (14, 0))])
def rxILME_5 (S0 : Nat → Int → Int) (ws : List Int) (S : Nat → Int → Int) (m row1 cue k b c : Int) : Prop := b = 6 * S0 513 k ∧ c = ldrC S0 k ∧ rxLast S0 k ∧ k < S0 482 6 ∧ ldrR S0 k = row1 ∧ ldU69 S0 S ∧ S 480 70 = S0 480 70 ∧ ws = [480, m, row1, cue]
def rxmLME_5 (S0 : Nat → Int → Int) (ws : List Int) (S : Nat → Int → Int) (m row1 cue k b c : Int) : Nat := 1000 + 100 * (20 - k).toNat + 60
def rxzLME_5 : rx_Z := ([(0, 0), (0, 0), (0, 0), (0, 0), (0, 0), (0, 0), (0, 0), (0, 0), (1, 3), (0, 3), (0, 5), (0, 11), (0, 12), (0, 5)], [], [], 0, 0, 81, [(0, .inr (3, (0, 480))), (1, .inr (0, (8, 0))), (2, .inr (0, (9, 0))), (3, .inr (0, (10, 0))), (5, .inr (0, (11, 0)))], [.inr (0, (13, 0)), .inr (0, (12, 0)), .inr (3, (0, 515))])
def rxILME_6 (S0 : Nat → Int → Int) (ws : List Int) (S : Nat → Int → Int) (m row1 cue st s : Int) : Prop := ldU69 S0 S ∧ ws = [480, m, row1, cue] ∧ s ≤ m ∧ (∃ z : Int, ldMz S0 row1 (S0 482 6) z ∧ st = lds z (ldrC S0) (S0 515) (S0 513)) ∧ S 480 70 = (((S0 480 70).toNat ||| ldgs m cue st (S0 514) s : Nat) : Int)
def rxmLME_6 (S0 : Nat → Int → Int) (ws : List Int) (S : Nat → Int → Int) (m row1 cue st s : Int) : Nat := 100 * (5 - s).toNat
def rxzLME_6 : rx_Z := ([(0, 0), (0, 0), (0, 0), (0, 0), (0, 0), (0, 0), (0, 0), (0, 0), (1, 3), (0, 3), (0, 5), ((-1), 2), (0, 3)], [], [], 0, 0, 94, [(0, .inr (3, (0, 480))), (1, .inr (0, (8, 0))), (2, .inr (0, (9, 0))), (3, .inr (0, (10, 0))), (4, .inr (0, (11, 0))), (5, .inr (0, (12, 0)))], [])
def rxILME_7 (S0 : Nat → Int → Int) (ws : List Int) (S : Nat → Int → Int) (m row1 cue st s w6 bt w7 : Int) : Prop := w7 = w6 ∧ w6 = S0 514 (6 * s + cue) ∧ (st = -1 ∨ st = s) ∧ ldU69 S0 S ∧ ws = [480, m, row1, cue] ∧ s < m ∧ (∃ z : Int, ldMz S0 row1 (S0 482 6) z ∧ st = lds z (ldrC S0) (S0 515) (S0 513)) ∧ bt = S 480 70 ∧ S 480 70 = (((S0 480 70).toNat ||| ldgs m cue st (S0 514) s : Nat) : Int)
def rxmLME_7 (S0 : Nat → Int → Int) (ws : List Int) (S : Nat → Int → Int) (m row1 cue st s w6 bt w7 : Int) : Nat := 100 * (5 - s).toNat - 10
def rxzLME_7 : rx_Z := ([(0, 0), (0, 0), (0, 0), (0, 0), (0, 0), (0, 0), (0, 0), (0, 0), (1, 3), (0, 3), (0, 5), ((-1), 2), (0, 2), ((-1), 9), (0, 1023), (0, 9)], [], [], 0, 0, 151, [(0, .inr (3, (0, 480))), (1, .inr (0, (8, 0))), (2, .inr (0, (9, 0))), (3, .inr (0, (10, 0))), (4, .inr (0, (11, 0))), (5, .inr (0, (12, 0))), (6, .inr (0, (13, 0)))], [.inr (0, (15, 0)), .inr (0, (0, 1)), .inr (0, (14, 0)), .inr (3, (0, 480))])
def rxILME_8 (S0 : Nat → Int → Int) (ws : List Int) (S : Nat → Int → Int) (m row1 cue st s w6 bt w7 y : Int) : Prop := y = (ldg m cue st (S0 514) s : Nat) ∧ ldU69 S0 S ∧ ws = [480, m, row1, cue] ∧ s < m ∧ (∃ z : Int, ldMz S0 row1 (S0 482 6) z ∧ st = lds z (ldrC S0) (S0 515) (S0 513)) ∧ bt = S 480 70 ∧ S 480 70 = (((S0 480 70).toNat ||| ldgs m cue st (S0 514) s : Nat) : Int)
def rxmLME_8 (S0 : Nat → Int → Int) (ws : List Int) (S : Nat → Int → Int) (m row1 cue st s w6 bt w7 y : Int) : Nat := 100 * (5 - s).toNat - 20
def rxzLME_8 : rx_Z := ([(0, 0), (0, 0), (0, 0), (0, 0), (0, 0), (0, 0), (0, 0), (0, 0), (1, 3), (0, 3), (0, 5), ((-1), 2), (0, 2), ((-1), 9), (0, 1023), (0, 9), (1, 512)], [], [], 0, 0, 152, [(0, .inr (3, (0, 480))), (1, .inr (0, (8, 0))), (2, .inr (0, (9, 0))), (3, .inr (0, (10, 0))), (4, .inr (0, (11, 0))), (5, .inr (0, (12, 0))), (6, .inr (0, (13, 0)))], [.inr (0, (16, 0)), .inr (0, (14, 0)), .inr (3, (0, 480))])
def rxILME_9 (S0 : Nat → Int → Int) (ws : List Int) (S : Nat → Int → Int) (m row1 cue st s w6 bt w7 y z2 : Int) : Prop := ldU69 S0 S ∧ ws = [480, m, row1, cue] ∧ s < m ∧ (∃ z : Int, ldMz S0 row1 (S0 482 6) z ∧ st = lds z (ldrC S0) (S0 515) (S0 513)) ∧ z2 = (((S0 480 70).toNat ||| ldgs m cue st (S0 514) (s + 1) : Nat) : Int)
def rxmLME_9 (S0 : Nat → Int → Int) (ws : List Int) (S : Nat → Int → Int) (m row1 cue st s w6 bt w7 y z2 : Int) : Nat := 100 * (5 - s).toNat - 30
def rxzLME_9 : rx_Z := ([(0, 0), (0, 0), (0, 0), (0, 0), (0, 0), (0, 0), (0, 0), (0, 0), (1, 3), (0, 3), (0, 5), ((-1), 2), (0, 2), ((-1), 9), (0, 1023), (0, 9), (1, 512), (0, 1023)], [], [], 0, 0, 153, [(0, .inr (3, (0, 480))), (1, .inr (0, (8, 0))), (2, .inr (0, (9, 0))), (3, .inr (0, (10, 0))), (4, .inr (0, (11, 0))), (5, .inr (0, (12, 0))), (6, .inr (0, (13, 0)))], [.inr (0, (17, 0)), .inr (3, (0, 480))])
def rxILME_10 (S0 : Nat → Int → Int) (ws : List Int) (S : Nat → Int → Int) (m row1 cue st s w6 bt vv : Int) : Prop := vv = (ldg m cue st (S0 514) s : Nat) ∧ ldU69 S0 S ∧ ws = [480, m, row1, cue] ∧ s < m ∧ (∃ z : Int, ldMz S0 row1 (S0 482 6) z ∧ st = lds z (ldrC S0) (S0 515) (S0 513)) ∧ bt = S 480 70 ∧ S 480 70 = (((S0 480 70).toNat ||| ldgs m cue st (S0 514) s : Nat) : Int)
def rxmLME_10 (S0 : Nat → Int → Int) (ws : List Int) (S : Nat → Int → Int) (m row1 cue st s w6 bt vv : Int) : Nat := 100 * (5 - s).toNat - 20
def rxzLME_10 : rx_Z := ([(0, 0), (0, 0), (0, 0), (0, 0), (0, 0), (0, 0), (0, 0), (0, 0), (1, 3), (0, 3), (0, 5), ((-1), 2), (0, 2), ((-1), 9), (0, 1023), (0, 1023)], [], [], 0, 0, 152, [(0, .inr (3, (0, 480))), (1, .inr (0, (8, 0))), (2, .inr (0, (9, 0))), (3, .inr (0, (10, 0))), (4, .inr (0, (11, 0))), (5, .inr (0, (12, 0))), (6, .inr (0, (13, 0)))], [.inr (0, (15, 0)), .inr (0, (14, 0)), .inr (3, (0, 480))])
def rxILME_11 (S0 : Nat → Int → Int) (ws : List Int) (S : Nat → Int → Int) (m row1 cue st s w6 bt vv z2 : Int) : Prop := ldU69 S0 S ∧ ws = [480, m, row1, cue] ∧ s < m ∧ (∃ z : Int, ldMz S0 row1 (S0 482 6) z ∧ st = lds z (ldrC S0) (S0 515) (S0 513)) ∧ z2 = (((S0 480 70).toNat ||| ldgs m cue st (S0 514) (s + 1) : Nat) : Int)
def rxmLME_11 (S0 : Nat → Int → Int) (ws : List Int) (S : Nat → Int → Int) (m row1 cue st s w6 bt vv z2 : Int) : Nat := 100 * (5 - s).toNat - 30
def rxzLME_11 : rx_Z := ([(0, 0), (0, 0), (0, 0), (0, 0), (0, 0), (0, 0), (0, 0), (0, 0), (1, 3), (0, 3), (0, 5), ((-1), 2), (0, 2), ((-1), 9), (0, 1023), (0, 1023), (0, 1023)], [], [], 0, 0, 153, [(0, .inr (3, (0, 480))), (1, .inr (0, (8, 0))), (2, .inr (0, (9, 0))), (3, .inr (0, (10, 0))), (4, .inr (0, (11, 0))), (5, .inr (0, (12, 0))), (6, .inr (0, (13, 0)))], [.inr (0, (16, 0)), .inr (3, (0, 480))])
def rxoLME_0_0 : bx_HO := (([(0, 0), (0, 0), (0, 0), (0, 0), (0, 0), (0, 0), (0, 0), (0, 0), (1, 3), (0, 3), (0, 5), ((-2147483648), 2147483647)], [], [(((0, 0), 1851192626986356811273103098664536289004699062340675673050316800000000), .inr (0, (11, 0))), (((0, 480), 69), .inr (0, (11, 0)))], 0, 0, 5, [(0, .inr (3, (0, 480))), (1, .inr (0, (8, 0))), (2, .inr (0, (9, 0))), (3, .inr (0, (10, 0)))], [.inr (0, (11, 0)), .inr (3, (0, 480))]), [(11, 0, 600000)], [], [(0, 0), (0, 0), (0, 0), (0, 0), (0, 0), (0, 0), (0, 0), (0, 0), (8, 0), (9, 0), (10, 0), (11, 0)], 1)
def rxoLME_1_0 : bx_HO := (([(0, 0), (0, 0), (0, 0), (0, 0), (0, 0), (0, 0), (0, 0), (0, 0), (1, 3), (0, 3), (0, 5), (0, 600000)], [], [(((0, 0), 1851192626986356811273103098664536289004699062340675673050316803000000), .inr (0, (11, 1))), (((0, 480), 69), .inr (0, (11, 1)))], 0, 0, 16, [(5, .inr (0, (0, 0))), (4, .inr (0, (0, 0))), (0, .inr (3, (0, 480))), (1, .inr (0, (8, 0))), (2, .inr (0, (9, 0))), (3, .inr (0, (10, 0)))], []), [], [], [(0, 0), (0, 0), (0, 0), (0, 0), (0, 0), (0, 0), (0, 0), (0, 0), (8, 0), (9, 0), (10, 0), (0, 0), (0, 0)], 2)
def rxoLME_2_0 : bx_HO := (([(0, 0), (0, 0), (0, 0), (0, 0), (0, 0), (0, 0), (0, 0), (0, 0), (1, 3), (0, 3), (0, 5), ((-1), 2), (0, 11), (1, 12), (0, 775), (0, 3)], [(2, (15, 0), (9, 0)), (0, (12, 0), (13, 0))], [(((0, 0), 1851192626986356797424383205955251356357414400226579580632301568000000), .inr (0, (15, 0))), (((0, 0), 1851192626986356797424377080872646779465072059483645808822190080000000), .inr (0, (14, 0))), (((0, 480), 61), .inr (3, (0, 512))), (((0, 0), 1851192626986356798628580571097672967753946801749054699160600576000000), .inr (0, (13, 0))), (((0, 482), 6), .inr (0, (13, 0))), (((0, 480), 3), .inr (3, (0, 482)))], 0, 0, 47, [(0, .inr (3, (0, 480))), (1, .inr (0, (8, 0))), (2, .inr (0, (9, 0))), (3, .inr (0, (10, 0))), (4, .inr (0, (11, 0))), (5, .inr (0, (12, 0)))], [.inr (0, (12, 0)), .inr (3, (0, 480))]), [], [], [(0, 0), (0, 0), (0, 0), (0, 0), (0, 0), (0, 0), (0, 0), (0, 0), (8, 0), (9, 0), (10, 0), (11, 0), (12, 0), (12, 0)], 3)
def rxoLME_2_1 : bx_HO := (([(0, 0), (0, 0), (0, 0), (0, 0), (0, 0), (0, 0), (0, 0), (0, 0), (1, 3), (0, 3), (0, 5), ((-1), 2), (0, 11), (1, 12), (0, 775), ((-1), 300)], [(3, (15, 0), (9, 0)), (0, (12, 0), (13, 0))], [(((0, 0), 1851192626986356797424383205955251356357414400226579580632301568000000), .inr (0, (15, 0))), (((0, 0), 1851192626986356797424377080872646779465072059483645808822190080000000), .inr (0, (14, 0))), (((0, 480), 61), .inr (3, (0, 512))), (((0, 0), 1851192626986356798628580571097672967753946801749054699160600576000000), .inr (0, (13, 0))), (((0, 482), 6), .inr (0, (13, 0))), (((0, 480), 3), .inr (3, (0, 482)))], 0, 0, 16, [(5, .inr (0, (12, 1))), (0, .inr (3, (0, 480))), (1, .inr (0, (8, 0))), (2, .inr (0, (9, 0))), (3, .inr (0, (10, 0))), (4, .inr (0, (11, 0)))], []), [], [], [(0, 0), (0, 0), (0, 0), (0, 0), (0, 0), (0, 0), (0, 0), (0, 0), (8, 0), (9, 0), (10, 0), (11, 0), (12, 1)], 2)
def rxoLME_2_2 : bx_HO := (([(0, 0), (0, 0), (0, 0), (0, 0), (0, 0), (0, 0), (0, 0), (0, 0), (1, 3), (0, 3), (0, 5), ((-1), 2), (0, 12), (0, 12)], [(1, (13, 0), (12, 0))], [(((0, 0), 1851192626986356798628580571097672967753946801749054699160600576000000), .inr (0, (13, 0))), (((0, 482), 6), .inr (0, (13, 0))), (((0, 480), 3), .inr (3, (0, 482)))], 0, 0, 94, [(5, .inr (0, (0, 0))), (0, .inr (3, (0, 480))), (1, .inr (0, (8, 0))), (2, .inr (0, (9, 0))), (3, .inr (0, (10, 0))), (4, .inr (0, (11, 0)))], []), [], [], [(0, 0), (0, 0), (0, 0), (0, 0), (0, 0), (0, 0), (0, 0), (0, 0), (8, 0), (9, 0), (10, 0), (11, 0), (0, 0)], 6)
def rxoLME_4_0 : bx_HO := (([(0, 0), (0, 0), (0, 0), (0, 0), (0, 0), (0, 0), (0, 0), (0, 0), (1, 3), (0, 3), (0, 5), ((-1), 2), (0, 11), (0, 11), (1, 1), (0, 2), (0, 12), (0, 775), ((-1), 300)], [(10, (16, 0), (15, 0)), (3, (14, 0), (0, 0))], [(((0, 0), 1851192626986356797625099100365933829969749375794815491927834624000000), .inr (0, (18, 0))), (((0, 0), 1851192626986356797424377080872646779465072059483645808822190080000000), .inr (0, (17, 0))), (((0, 480), 61), .inr (3, (0, 512))), (((0, 480), 3), .inr (3, (0, 482))), (((0, 0), 1851192626986356797424377080872646779465072059483645808822779904000000), .inr (0, (15, 0))), (((0, 480), 62), .inr (3, (0, 513))), (((0, 480), 64), .inr (3, (0, 515)))], 0, 0, 81, [(0, .inr (3, (0, 480))), (1, .inr (0, (8, 0))), (2, .inr (0, (9, 0))), (3, .inr (0, (10, 0))), (4, .inr (0, (11, 0))), (5, .inr (0, (12, 0)))], [.inr (0, (18, 0)), .inr (0, (16, 0)), .inr (3, (0, 515))]), [(18, 0, 5)], [], [(0, 0), (0, 0), (0, 0), (0, 0), (0, 0), (0, 0), (0, 0), (0, 0), (8, 0), (9, 0), (10, 0), (12, 0), (16, 0), (18, 0)], 5)
def rxoLME_4_1 : bx_HO := (([(0, 0), (0, 0), (0, 0), (0, 0), (0, 0), (0, 0), (0, 0), (0, 0), (1, 3), (0, 3), (0, 5), ((-1), 2), (0, 11), (0, 11), (0, 0)], [], [], 0, 0, 16, [(5, .inr (0, (12, 1))), (0, .inr (3, (0, 480))), (1, .inr (0, (8, 0))), (2, .inr (0, (9, 0))), (3, .inr (0, (10, 0))), (4, .inr (0, (11, 0)))], []), [], [], [(0, 0), (0, 0), (0, 0), (0, 0), (0, 0), (0, 0), (0, 0), (0, 0), (8, 0), (9, 0), (10, 0), (11, 0), (12, 1)], 2)
def rxoLME_5_0 : bx_HO := (([(0, 0), (0, 0), (0, 0), (0, 0), (0, 0), (0, 0), (0, 0), (0, 0), (1, 3), (0, 3), (0, 5), (0, 11), (0, 12), (0, 5), (0, 17), ((-1), 2)], [(604462909807314587353101000000, (14, 0), (12, 0))], [(((0, 0), 1851192626986356797424383205955251356357414400226579580651765760000000), .inr (0, (15, 0)))], 0, 0, 16, [(5, .inr (0, (11, 1))), (4, .inr (0, (15, 0))), (0, .inr (3, (0, 480))), (1, .inr (0, (8, 0))), (2, .inr (0, (9, 0))), (3, .inr (0, (10, 0)))], []), [], [], [(0, 0), (0, 0), (0, 0), (0, 0), (0, 0), (0, 0), (0, 0), (0, 0), (8, 0), (9, 0), (10, 0), (15, 0), (11, 1)], 2)
def rxoLME_6_0 : bx_HO := (([(0, 0), (0, 0), (0, 0), (0, 0), (0, 0), (0, 0), (0, 0), (0, 0), (1, 3), (0, 3), (0, 5), (0, 2), (0, 2), (0, 12), (0, 17), ((-1), 9), (0, 1023)], [(3, (11, 0), (12, 0)), (3, (11, 0), (0, (-1))), (604462909807314587353098000000, (14, 0), (13, 0)), (10, (13, 0), (12, 0)), (0, (12, 0), (8, 0))], [(((0, 0), 1851192626986356811473809805451311897278520526794510926604140544000000), .inr (0, (16, 0))), (((0, 480), 70), .inr (0, (16, 0))), (((0, 0), 1851192626986356797424383205955251356357414400226579580651175936000000), .inr (0, (15, 0))), (((0, 480), 63), .inr (3, (0, 514)))], 0, 0, 152, [(6, .inr (0, (15, 0))), (0, .inr (3, (0, 480))), (1, .inr (0, (8, 0))), (2, .inr (0, (9, 0))), (3, .inr (0, (10, 0))), (4, .inr (0, (11, 0))), (5, .inr (0, (12, 0)))], [.inr (0, (0, 0)), .inr (0, (16, 0)), .inr (3, (0, 480))]), [], [], [(0, 0), (0, 0), (0, 0), (0, 0), (0, 0), (0, 0), (0, 0), (0, 0), (8, 0), (9, 0), (10, 0), (11, 0), (12, 0), (15, 0), (16, 0), (0, 0)], 10)
def rxoLME_6_1 : bx_HO := (([(0, 0), (0, 0), (0, 0), (0, 0), (0, 0), (0, 0), (0, 0), (0, 0), (1, 3), (0, 3), (0, 5), (0, 2), (0, 2), (0, 12), (0, 17), ((-1), (-1)), (0, 1023)], [(2, (11, 0), (12, 0)), (3, (11, 0), (0, (-1))), (604462909807314587353098000000, (14, 0), (13, 0)), (10, (13, 0), (12, 0)), (0, (12, 0), (8, 0))], [(((0, 0), 1851192626986356811473809805451311897278520526794510926604140544000000), .inr (0, (16, 0))), (((0, 480), 70), .inr (0, (16, 0))), (((0, 0), 1851192626986356797424383205955251356357414400226579580651175936000000), .inr (0, (15, 0))), (((0, 480), 63), .inr (3, (0, 514)))], 0, 0, 152, [(6, .inr (0, (15, 0))), (0, .inr (3, (0, 480))), (1, .inr (0, (8, 0))), (2, .inr (0, (9, 0))), (3, .inr (0, (10, 0))), (4, .inr (0, (11, 0))), (5, .inr (0, (12, 0)))], [.inr (0, (0, 1023)), .inr (0, (16, 0)), .inr (3, (0, 480))]), [], [], [(0, 0), (0, 0), (0, 0), (0, 0), (0, 0), (0, 0), (0, 0), (0, 0), (8, 0), (9, 0), (10, 0), (11, 0), (12, 0), (15, 0), (16, 0), (0, 1023)], 10)
def rxoLME_6_2 : bx_HO := (([(0, 0), (0, 0), (0, 0), (0, 0), (0, 0), (0, 0), (0, 0), (0, 0), (1, 3), (0, 3), (0, 5), (0, 2), (0, 2), (0, 12), (0, 17), (0, 9), (0, 1023)], [(3, (15, 0), (0, (-1))), (2, (11, 0), (12, 0)), (3, (11, 0), (0, (-1))), (604462909807314587353098000000, (14, 0), (13, 0)), (10, (13, 0), (12, 0)), (0, (12, 0), (8, 0))], [(((0, 0), 1851192626986356811473809805451311897278520526794510926604140544000000), .inr (0, (16, 0))), (((0, 480), 70), .inr (0, (16, 0))), (((0, 0), 1851192626986356797424383205955251356357414400226579580651175936000000), .inr (0, (15, 0))), (((0, 480), 63), .inr (3, (0, 514)))], 0, 0, 151, [(6, .inr (0, (15, 0))), (0, .inr (3, (0, 480))), (1, .inr (0, (8, 0))), (2, .inr (0, (9, 0))), (3, .inr (0, (10, 0))), (4, .inr (0, (11, 0))), (5, .inr (0, (12, 0)))], [.inr (0, (15, 0)), .inr (0, (0, 1)), .inr (0, (16, 0)), .inr (3, (0, 480))]), [], [], [(0, 0), (0, 0), (0, 0), (0, 0), (0, 0), (0, 0), (0, 0), (0, 0), (8, 0), (9, 0), (10, 0), (11, 0), (12, 0), (15, 0), (16, 0), (15, 0)], 7)
def rxoLME_6_3 : bx_HO := (([(0, 0), (0, 0), (0, 0), (0, 0), (0, 0), (0, 0), (0, 0), (0, 0), (1, 3), (0, 3), (0, 5), ((-1), (-1)), (0, 2), (0, 12), (0, 17), ((-1), (-1)), (0, 1023)], [(604462909807314587353098000000, (14, 0), (13, 0)), (10, (13, 0), (12, 0)), (0, (12, 0), (8, 0))], [(((0, 0), 1851192626986356811473809805451311897278520526794510926604140544000000), .inr (0, (16, 0))), (((0, 480), 70), .inr (0, (16, 0))), (((0, 0), 1851192626986356797424383205955251356357414400226579580651175936000000), .inr (0, (15, 0))), (((0, 480), 63), .inr (3, (0, 514)))], 0, 0, 152, [(6, .inr (0, (15, 0))), (0, .inr (3, (0, 480))), (1, .inr (0, (8, 0))), (2, .inr (0, (9, 0))), (3, .inr (0, (10, 0))), (4, .inr (0, (11, 0))), (5, .inr (0, (12, 0)))], [.inr (0, (0, 1023)), .inr (0, (16, 0)), .inr (3, (0, 480))]), [], [], [(0, 0), (0, 0), (0, 0), (0, 0), (0, 0), (0, 0), (0, 0), (0, 0), (8, 0), (9, 0), (10, 0), (11, 0), (12, 0), (15, 0), (16, 0), (0, 1023)], 10)
def rxoLME_6_4 : bx_HO := (([(0, 0), (0, 0), (0, 0), (0, 0), (0, 0), (0, 0), (0, 0), (0, 0), (1, 3), (0, 3), (0, 5), ((-1), (-1)), (0, 2), (0, 12), (0, 17), (0, 9), (0, 1023)], [(3, (15, 0), (0, (-1))), (604462909807314587353098000000, (14, 0), (13, 0)), (10, (13, 0), (12, 0)), (0, (12, 0), (8, 0))], [(((0, 0), 1851192626986356811473809805451311897278520526794510926604140544000000), .inr (0, (16, 0))), (((0, 480), 70), .inr (0, (16, 0))), (((0, 0), 1851192626986356797424383205955251356357414400226579580651175936000000), .inr (0, (15, 0))), (((0, 480), 63), .inr (3, (0, 514)))], 0, 0, 151, [(6, .inr (0, (15, 0))), (0, .inr (3, (0, 480))), (1, .inr (0, (8, 0))), (2, .inr (0, (9, 0))), (3, .inr (0, (10, 0))), (4, .inr (0, (11, 0))), (5, .inr (0, (12, 0)))], [.inr (0, (15, 0)), .inr (0, (0, 1)), .inr (0, (16, 0)), .inr (3, (0, 480))]), [], [], [(0, 0), (0, 0), (0, 0), (0, 0), (0, 0), (0, 0), (0, 0), (0, 0), (8, 0), (9, 0), (10, 0), (11, 0), (12, 0), (15, 0), (16, 0), (15, 0)], 7)
def rxeLME_6_0 : rx_End × List (Nat × Int × Int) := (([(0, 0), (0, 0), (0, 0), (0, 0), (0, 0), (0, 0), (0, 0), (0, 0), (1, 3), (0, 3), (0, 5), ((-1), 2), (1, 3)], [(1, (8, 0), (12, 0))], [], none), [])
def rxoLME_9_0 : bx_HO := (([(0, 0), (0, 0), (0, 0), (0, 0), (0, 0), (0, 0), (0, 0), (0, 0), (1, 3), (0, 3), (0, 5), ((-1), 2), (0, 2), ((-1), 9), (0, 1023), (0, 9), (1, 512), (0, 1023)], [], [(((0, 0), 1851192626986356811473809805451311897278520526794510926604140547000000), .inr (0, (17, 0))), (((0, 480), 70), .inr (0, (17, 0)))], 0, 0, 94, [(5, .inr (0, (12, 1))), (0, .inr (3, (0, 480))), (1, .inr (0, (8, 0))), (2, .inr (0, (9, 0))), (3, .inr (0, (10, 0))), (4, .inr (0, (11, 0))), (6, .inr (0, (13, 0)))], []), [], [], [(0, 0), (0, 0), (0, 0), (0, 0), (0, 0), (0, 0), (0, 0), (0, 0), (8, 0), (9, 0), (10, 0), (11, 0), (12, 1)], 6)
def rxoLME_11_0 : bx_HO := (([(0, 0), (0, 0), (0, 0), (0, 0), (0, 0), (0, 0), (0, 0), (0, 0), (1, 3), (0, 3), (0, 5), ((-1), 2), (0, 2), ((-1), 9), (0, 1023), (0, 1023), (0, 1023)], [], [(((0, 0), 1851192626986356811473809805451311897278520526794510926604140547000000), .inr (0, (16, 0))), (((0, 480), 70), .inr (0, (16, 0)))], 0, 0, 94, [(5, .inr (0, (12, 1))), (0, .inr (3, (0, 480))), (1, .inr (0, (8, 0))), (2, .inr (0, (9, 0))), (3, .inr (0, (10, 0))), (4, .inr (0, (11, 0))), (6, .inr (0, (13, 0)))], []), [], [], [(0, 0), (0, 0), (0, 0), (0, 0), (0, 0), (0, 0), (0, 0), (0, 0), (8, 0), (9, 0), (10, 0), (11, 0), (12, 1)], 6)
def rxYLME : List bx_HE := [(rxzLME_0, [rxoLME_0_0], []), (rxzLME_1, [rxoLME_1_0], []), (rxzLME_2, [rxoLME_2_0, rxoLME_2_1, rxoLME_2_2], []), (rxzLME_3, [], []), (rxzLME_4, [rxoLME_4_0, rxoLME_4_1], []), (rxzLME_5, [rxoLME_5_0], []), (rxzLME_6, [rxoLME_6_0, rxoLME_6_1, rxoLME_6_2, rxoLME_6_3, rxoLME_6_4], [rxeLME_6_0]), (rxzLME_7, [], []), (rxzLME_8, [], []), (rxzLME_9, [rxoLME_9_0], []), (rxzLME_10, [], []), (rxzLME_11, [rxoLME_11_0], [])]
def rxULME (q : bx_HE) : Bool := Nat.beq (rx_zpc q.1) 47 || Nat.beq (rx_zpc q.1) 151 || Nat.beq (rx_zpc q.1) 152 || Nat.beq (rx_zpc q.1) 152
def rxYBLME : bx_B := (rxV, rxNP, rxDmf, bx_mdH rxCLME.2.2.1)
set_option maxRecDepth 100000 in
theorem rxYcLME : bx_chkH rxYBLME rxM319 rxCLME rxYLME (rxULME, fun cut z => rx_ex2 (rxCT rxYBLME rxCnE) cut 30000 rxCLME.2.2.2.1 319 z) = true := by decide +kernel
def rxILME (S0 : Nat → Int → Int) (ws : List Int) (i : Nat) : bx_SP := fun S r => match i with | 0 => rxILME_0 S0 ws S (r 8) (r 9) (r 10) | 1 => rxILME_1 S0 ws S (r 8) (r 9) (r 10) (r 11) | 2 => rxILME_2 S0 ws S (r 8) (r 9) (r 10) (r 11) (r 12) | 3 => rxILME_3 S0 ws S (r 8) (r 9) (r 10) (r 11) (r 12) (r 13) | 4 => rxILME_4 S0 ws S (r 8) (r 9) (r 10) (r 11) (r 12) (r 13) (r 14) | 5 => rxILME_5 S0 ws S (r 8) (r 9) (r 10) (r 11) (r 12) (r 13) | 6 => rxILME_6 S0 ws S (r 8) (r 9) (r 10) (r 11) (r 12) | 7 => rxILME_7 S0 ws S (r 8) (r 9) (r 10) (r 11) (r 12) (r 13) (r 14) (r 15) | 8 => rxILME_8 S0 ws S (r 8) (r 9) (r 10) (r 11) (r 12) (r 13) (r 14) (r 15) (r 16) | 9 => rxILME_9 S0 ws S (r 8) (r 9) (r 10) (r 11) (r 12) (r 13) (r 14) (r 15) (r 16) (r 17) | 10 => rxILME_10 S0 ws S (r 8) (r 9) (r 10) (r 11) (r 12) (r 13) (r 14) (r 15) | 11 => rxILME_11 S0 ws S (r 8) (r 9) (r 10) (r 11) (r 12) (r 13) (r 14) (r 15) (r 16) | _ => False
def rxmLME (S0 : Nat → Int → Int) (ws : List Int) (i : Nat) (S : Nat → Int → Int) (r : Nat → Int) : Nat := match i with | 0 => rxmLME_0 S0 ws S (r 8) (r 9) (r 10) | 1 => rxmLME_1 S0 ws S (r 8) (r 9) (r 10) (r 11) | 2 => rxmLME_2 S0 ws S (r 8) (r 9) (r 10) (r 11) (r 12) | 3 => rxmLME_3 S0 ws S (r 8) (r 9) (r 10) (r 11) (r 12) (r 13) | 4 => rxmLME_4 S0 ws S (r 8) (r 9) (r 10) (r 11) (r 12) (r 13) (r 14) | 5 => rxmLME_5 S0 ws S (r 8) (r 9) (r 10) (r 11) (r 12) (r 13) | 6 => rxmLME_6 S0 ws S (r 8) (r 9) (r 10) (r 11) (r 12) | 7 => rxmLME_7 S0 ws S (r 8) (r 9) (r 10) (r 11) (r 12) (r 13) (r 14) (r 15) | 8 => rxmLME_8 S0 ws S (r 8) (r 9) (r 10) (r 11) (r 12) (r 13) (r 14) (r 15) (r 16) | 9 => rxmLME_9 S0 ws S (r 8) (r 9) (r 10) (r 11) (r 12) (r 13) (r 14) (r 15) (r 16) (r 17) | 10 => rxmLME_10 S0 ws S (r 8) (r 9) (r 10) (r 11) (r 12) (r 13) (r 14) (r 15) | 11 => rxmLME_11 S0 ws S (r 8) (r 9) (r 10) (r 11) (r 12) (r 13) (r 14) (r 15) (r 16) | _ => 0
def rxPLME (S0 : Nat → Int → Int) (ws : List Int) : Prop := ∃ m row1 cue : Int, ws = [480, m, row1, cue] ∧ rxOrd S0 ∧ 0 ≤ S0 480 69 ∧ S0 480 69 ≤ 600000 ∧ 0 ≤ S0 480 70 ∧ S0 480 70 ≤ 1023
def rxPSLME (S0 : Nat → Int → Int) (ws : List Int) (S : Nat → Int → Int) (w : Option Int) : Prop := w = none ∧ ∃ m row1 cue z : Int, ws = [480, m, row1, cue] ∧ ldMz S0 row1 (S0 482 6) z ∧ ldU69 S0 S ∧ S 480 70 = (((S0 480 70).toNat ||| ldl m cue z (ldrC S0) (S0 514) (S0 515) (S0 513) : Nat) : Int)
theorem rxkLME_3 {S0 : Nat → Int → Int} {ws : List Int} {S : Nat → Int → Int} {m row1 cue st k a : Int} (hP : rxPLME S0 ws) (hin : bx_same rxL (bx_mdl rxCLME.2.2.1) S0 S) (I0 : bx_Inv rxL S) (hinv : rxILME_3 S0 ws S m row1 cue st k a) (l8 : 1 ≤ m) (u8 : m ≤ 3) (l9 : 0 ≤ row1) (u9 : row1 ≤ 3) (l10 : 0 ≤ cue) (u10 : cue ≤ 5) (l11 : (-1) ≤ st) (u11 : st ≤ 2) (l12 : 0 ≤ k) (u12 : k ≤ 11) (l13 : 0 ≤ a) (u13 : a ≤ 11) : rxPIL S [480, a] ∧ ∀ (S' : Nat → Int → Int) (il : Int), 0 ≤ il → il ≤ 1 → rxPSIL S [480, a] S' (some il) → bx_Inv rxL S' → bx_same rxL (bx_mdl rxCIL.2.2.1) S S' → rxILME_4 S0 ws S' m row1 cue st k a il ∧ rxmLME_4 S0 ws S' m row1 cue st k a il < rxmLME_3 S0 ws S m row1 cue st k a := by
  obtain ⟨ha, hk, hR, hu, hB⟩ := hinv
  refine ⟨⟨a, rfl, by rw [ha, ldU69_R hu 482 (by omega)]; exact hk⟩, fun S' il g0 g1 hq I1 hsm => ?_⟩
  obtain ⟨e, k8, hw8, hc8⟩ := hq
  have w8_ : a = k8 := Option.some.inj (congrArg (fun l => l[1]?) hw8)
  subst w8_
  subst e
  have hL := rxLast_cg (k := a) (ldU69_R hu 482 (by omega)) (ldU69_R hu 512 (by omega))
  refine ⟨⟨fun q => ?_, fun q => ?_, hk, hR, hu, hB⟩, by unfold rxmLME_3 rxmLME_4; omega⟩
  · rcases hc8 with ⟨c1, c2⟩ | ⟨c1, c2⟩
    · rw [← ha, ← hL]
      exact c2
    · have := Option.some.inj c1
      omega
  · rcases hc8 with ⟨c1, c2⟩ | ⟨c1, c2⟩
    · have := Option.some.inj c1
      omega
    · rw [← ha, ← hL]
      exact c2
theorem rxsLME_3 {X : (Nat → Int → Int) → Prop} {S0 : Nat → Int → Int} {ws : List Int} (hP : rxPLME S0 ws) : rx_obK X S0 rxCLME.2.2.1 rxCIL.2.2.1 (rxILME S0 ws) (rxmLME S0 ws) 3 4 rxzLME_3 rxzLME_4 [.inr (3, (0, 480)), .inr (0, (13, 0))] (some 14) rxPIL rxPSIL := by
  intro S r hinv hXS I0 hin hs_ hf_
  have b_ := bx_bds_sat hs_
  have f_ := bx_fcl_ok hs_.1 hf_
  obtain ⟨⟨l8, u8⟩, ⟨l9, u9⟩, ⟨l10, u10⟩, ⟨l11, u11⟩, ⟨l12, u12⟩, ⟨l13, u13⟩, -⟩ := b_
  have g := rxkLME_3 hP hin I0 hinv l8 u8 l9 u9 l10 u10 l11 u11 l12 u12 l13 u13
  have ea : List.map (bx_num r) [.inr (3, (0, 480)), .inr (0, (13, 0))] = [480, (r 13)] := by
    simp only [List.map_cons, List.map_nil, bx_xv_ok hs_.1]
    rfl
  rw [ea]
  refine ⟨g.1, fun S' w r' hPS hX' I1 hsm hr hw hs' => ?_⟩
  have hw := hw _ rfl
  subst hw
  have b' := hs'.2.2 14 _ _ rfl
  have g2 := g.2 S' (r' 14) b'.1 b'.2 hPS I1 hsm
  show rxILME_4 S0 ws S' (r' 8) (r' 9) (r' 10) (r' 11) (r' 12) (r' 13) (r' 14) ∧ rxmLME_4 S0 ws S' (r' 8) (r' 9) (r' 10) (r' 11) (r' 12) (r' 13) (r' 14) < _
  rw [hr 8 (by decide), hr 9 (by decide), hr 10 (by decide), hr 11 (by decide), hr 12 (by decide), hr 13 (by decide)]
  exact g2
theorem rxbLME_7 {S0 : Nat → Int → Int} {ws : List Int} {S : Nat → Int → Int} {m row1 cue st s w6 bt w7 : Int} (hP : rxPLME S0 ws) (hin : bx_same rxL (bx_mdl rxCLME.2.2.1) S0 S) (I0 : bx_Inv rxL S) (hinv : rxILME_7 S0 ws S m row1 cue st s w6 bt w7) (l8 : 1 ≤ m) (u8 : m ≤ 3) (l9 : 0 ≤ row1) (u9 : row1 ≤ 3) (l10 : 0 ≤ cue) (u10 : cue ≤ 5) (l11 : (-1) ≤ st) (u11 : st ≤ 2) (l12 : 0 ≤ s) (u12 : s ≤ 2) (l13 : (-1) ≤ w6) (u13 : w6 ≤ 9) (l14 : 0 ≤ bt) (u14 : bt ≤ 1023) (l15 : 0 ≤ w7) (u15 : w7 ≤ 9) : bx_opcS 35 1 w7 ∧ ∀ y : Int, y = bx_opvS 35 1 w7 → (1 ≤ y ∧ y ≤ 512) ∧ rxILME_8 S0 ws S m row1 cue st s w6 bt w7 y ∧ rxmLME_8 S0 ws S m row1 cue st s w6 bt w7 y < rxmLME_7 S0 ws S m row1 cue st s w6 bt w7 := by
  obtain ⟨hw7, hw6, hor, hI⟩ := hinv
  have p1 : 2 ^ w7.toNat ≤ 512 := Nat.pow_le_pow_right (by omega) (show w7.toNat ≤ 9 by omega)
  have p2 : 1 ≤ 2 ^ w7.toNat := Nat.one_le_two_pow
  refine ⟨⟨rfl, by omega, by omega⟩, fun y hy => ?_⟩
  have hy : y = ((2 ^ w7.toNat : Nat) : Int) := hy
  refine ⟨⟨by omega, by omega⟩, ⟨?_, hI⟩, by unfold rxmLME_7 rxmLME_8; omega⟩
  unfold ldg
  rw [if_pos ⟨hI.2.2.1, hor⟩, ← hw6, ← hw7, hy]
  unfold ldw
  rw [if_pos ⟨by omega, by omega⟩]
theorem rxsLME_7 {X : (Nat → Int → Int) → Prop} {S0 : Nat → Int → Int} {ws : List Int} (hP : rxPLME S0 ws) : rx_obBS X S0 rxCLME.2.2.1 (rxILME S0 ws) (rxmLME S0 ws) 7 8 rxzLME_7 35 (0, 1) (15, 0) 1 512 := by
  intro S r hinv hXS I0 hin hs_ hf_
  have b_ := bx_bds_sat hs_
  have f_ := bx_fcl_ok hs_.1 hf_
  obtain ⟨⟨l8, u8⟩, ⟨l9, u9⟩, ⟨l10, u10⟩, ⟨l11, u11⟩, ⟨l12, u12⟩, ⟨l13, u13⟩, ⟨l14, u14⟩, ⟨l15, u15⟩, -⟩ := b_
  have g := rxbLME_7 hP hin I0 hinv l8 u8 l9 u9 l10 u10 l11 u11 l12 u12 l13 u13 l14 u14 l15 u15
  rw [bx_x_ok hs_.1, bx_x_ok hs_.1]
  refine ⟨g.1, fun r' hr h0_ hv => ?_⟩
  have g2 := g.2 (r' 16) hv
  show _ ∧ rxILME_8 S0 ws S (r' 8) (r' 9) (r' 10) (r' 11) (r' 12) (r' 13) (r' 14) (r' 15) (r' 16) ∧ rxmLME_8 S0 ws S (r' 8) (r' 9) (r' 10) (r' 11) (r' 12) (r' 13) (r' 14) (r' 15) (r' 16) < _
  rw [hr 8 (by decide), hr 9 (by decide), hr 10 (by decide), hr 11 (by decide), hr 12 (by decide), hr 13 (by decide), hr 14 (by decide), hr 15 (by decide)]
  exact g2
theorem rxbLME_8 {S0 : Nat → Int → Int} {ws : List Int} {S : Nat → Int → Int} {m row1 cue st s w6 bt w7 y : Int} (hP : rxPLME S0 ws) (hin : bx_same rxL (bx_mdl rxCLME.2.2.1) S0 S) (I0 : bx_Inv rxL S) (hinv : rxILME_8 S0 ws S m row1 cue st s w6 bt w7 y) (l8 : 1 ≤ m) (u8 : m ≤ 3) (l9 : 0 ≤ row1) (u9 : row1 ≤ 3) (l10 : 0 ≤ cue) (u10 : cue ≤ 5) (l11 : (-1) ≤ st) (u11 : st ≤ 2) (l12 : 0 ≤ s) (u12 : s ≤ 2) (l13 : (-1) ≤ w6) (u13 : w6 ≤ 9) (l14 : 0 ≤ bt) (u14 : bt ≤ 1023) (l15 : 0 ≤ w7) (u15 : w7 ≤ 9) (l16 : 1 ≤ y) (u16 : y ≤ 512) : bx_opc 6 bt y ∧ ∀ z2 : Int, z2 = bx_opv 6 bt y → (0 ≤ z2 ∧ z2 ≤ 1023) ∧ rxILME_9 S0 ws S m row1 cue st s w6 bt w7 y z2 ∧ rxmLME_9 S0 ws S m row1 cue st s w6 bt w7 y z2 < rxmLME_8 S0 ws S m row1 cue st s w6 bt w7 y := by
  obtain ⟨hy, hu, hw, hs, hz, hbt, hb⟩ := hinv
  refine ⟨⟨by omega, by omega, by omega⟩, fun z2 hz2 => ?_⟩
  have hz2 : z2 = ((bt.toNat ||| y.toNat : Nat) : Int) := hz2
  have hle := ldor_le (x := bt.toNat) (y := y.toNat) (by omega) (by omega)
  refine ⟨⟨by omega, by omega⟩, ⟨hu, hw, hs, hz, ?_⟩, by unfold rxmLME_8 rxmLME_9; omega⟩
  rw [hz2, hy, hbt, hb, ldgs_s (by omega) (by omega), ← Nat.or_assoc]
  rfl
theorem rxsLME_8 {X : (Nat → Int → Int) → Prop} {S0 : Nat → Int → Int} {ws : List Int} (hP : rxPLME S0 ws) : rx_obB X S0 rxCLME.2.2.1 (rxILME S0 ws) (rxmLME S0 ws) 8 9 rxzLME_8 6 (14, 0) (16, 0) 0 1023 := by
  intro S r hinv hXS I0 hin hs_ hf_
  have b_ := bx_bds_sat hs_
  have f_ := bx_fcl_ok hs_.1 hf_
  obtain ⟨⟨l8, u8⟩, ⟨l9, u9⟩, ⟨l10, u10⟩, ⟨l11, u11⟩, ⟨l12, u12⟩, ⟨l13, u13⟩, ⟨l14, u14⟩, ⟨l15, u15⟩, ⟨l16, u16⟩, -⟩ := b_
  have g := rxbLME_8 hP hin I0 hinv l8 u8 l9 u9 l10 u10 l11 u11 l12 u12 l13 u13 l14 u14 l15 u15 l16 u16
  rw [bx_x_ok hs_.1, bx_x_ok hs_.1]
  refine ⟨g.1, fun r' hr h0_ hv => ?_⟩
  have g2 := g.2 (r' 17) hv
  show _ ∧ rxILME_9 S0 ws S (r' 8) (r' 9) (r' 10) (r' 11) (r' 12) (r' 13) (r' 14) (r' 15) (r' 16) (r' 17) ∧ rxmLME_9 S0 ws S (r' 8) (r' 9) (r' 10) (r' 11) (r' 12) (r' 13) (r' 14) (r' 15) (r' 16) (r' 17) < _
  rw [hr 8 (by decide), hr 9 (by decide), hr 10 (by decide), hr 11 (by decide), hr 12 (by decide), hr 13 (by decide), hr 14 (by decide), hr 15 (by decide), hr 16 (by decide)]
  exact g2
theorem rxbLME_10 {S0 : Nat → Int → Int} {ws : List Int} {S : Nat → Int → Int} {m row1 cue st s w6 bt vv : Int} (hP : rxPLME S0 ws) (hin : bx_same rxL (bx_mdl rxCLME.2.2.1) S0 S) (I0 : bx_Inv rxL S) (hinv : rxILME_10 S0 ws S m row1 cue st s w6 bt vv) (l8 : 1 ≤ m) (u8 : m ≤ 3) (l9 : 0 ≤ row1) (u9 : row1 ≤ 3) (l10 : 0 ≤ cue) (u10 : cue ≤ 5) (l11 : (-1) ≤ st) (u11 : st ≤ 2) (l12 : 0 ≤ s) (u12 : s ≤ 2) (l13 : (-1) ≤ w6) (u13 : w6 ≤ 9) (l14 : 0 ≤ bt) (u14 : bt ≤ 1023) (l15 : 0 ≤ vv) (u15 : vv ≤ 1023) : bx_opc 6 bt vv ∧ ∀ z2 : Int, z2 = bx_opv 6 bt vv → (0 ≤ z2 ∧ z2 ≤ 1023) ∧ rxILME_11 S0 ws S m row1 cue st s w6 bt vv z2 ∧ rxmLME_11 S0 ws S m row1 cue st s w6 bt vv z2 < rxmLME_10 S0 ws S m row1 cue st s w6 bt vv := by
  obtain ⟨hy, hu, hw, hs, hz, hbt, hb⟩ := hinv
  refine ⟨⟨by omega, by omega, by omega⟩, fun z2 hz2 => ?_⟩
  have hz2 : z2 = ((bt.toNat ||| vv.toNat : Nat) : Int) := hz2
  have hle := ldor_le (x := bt.toNat) (y := vv.toNat) (by omega) (by omega)
  refine ⟨⟨by omega, by omega⟩, ⟨hu, hw, hs, hz, ?_⟩, by unfold rxmLME_10 rxmLME_11; omega⟩
  rw [hz2, hy, hbt, hb, ldgs_s (by omega) (by omega), ← Nat.or_assoc]
  rfl
theorem rxsLME_10 {X : (Nat → Int → Int) → Prop} {S0 : Nat → Int → Int} {ws : List Int} (hP : rxPLME S0 ws) : rx_obB X S0 rxCLME.2.2.1 (rxILME S0 ws) (rxmLME S0 ws) 10 11 rxzLME_10 6 (14, 0) (15, 0) 0 1023 := by
  intro S r hinv hXS I0 hin hs_ hf_
  have b_ := bx_bds_sat hs_
  have f_ := bx_fcl_ok hs_.1 hf_
  obtain ⟨⟨l8, u8⟩, ⟨l9, u9⟩, ⟨l10, u10⟩, ⟨l11, u11⟩, ⟨l12, u12⟩, ⟨l13, u13⟩, ⟨l14, u14⟩, ⟨l15, u15⟩, -⟩ := b_
  have g := rxbLME_10 hP hin I0 hinv l8 u8 l9 u9 l10 u10 l11 u11 l12 u12 l13 u13 l14 u14 l15 u15
  rw [bx_x_ok hs_.1, bx_x_ok hs_.1]
  refine ⟨g.1, fun r' hr h0_ hv => ?_⟩
  have g2 := g.2 (r' 16) hv
  show _ ∧ rxILME_11 S0 ws S (r' 8) (r' 9) (r' 10) (r' 11) (r' 12) (r' 13) (r' 14) (r' 15) (r' 16) ∧ rxmLME_11 S0 ws S (r' 8) (r' 9) (r' 10) (r' 11) (r' 12) (r' 13) (r' 14) (r' 15) (r' 16) < _
  rw [hr 8 (by decide), hr 9 (by decide), hr 10 (by decide), hr 11 (by decide), hr 12 (by decide), hr 13 (by decide), hr 14 (by decide), hr 15 (by decide)]
  exact g2
theorem rxcLME_0_0 {S0 : Nat → Int → Int} {ws : List Int} {S : Nat → Int → Int} {m row1 cue x11 : Int} (hP : rxPLME S0 ws) (hin : bx_same rxL (bx_mdl rxCLME.2.2.1) S0 S) (I0 : bx_Inv rxL S) (hinv : rxILME_0 S0 ws S m row1 cue) (l8 : 1 ≤ m) (u8 : m ≤ 3) (l9 : 0 ≤ row1) (u9 : row1 ≤ 3) (l10 : 0 ≤ cue) (u10 : cue ≤ 5) (l11 : (-2147483648) ≤ x11) (u11 : x11 ≤ 2147483647) (e0 : S 480 69 = x11) : ((0 ≤ x11 ∧ x11 ≤ 600000) ∧ True) ∧ (True) ∧ rxILME_1 S0 ws S m row1 cue x11 ∧ rxmLME_1 S0 ws S m row1 cue x11 < rxmLME_0 S0 ws S m row1 cue := by
  obtain ⟨rfl, hw⟩ := hinv
  obtain ⟨m9, row9, cue9, hw2, hord, p1, p2, p3, p4⟩ := hP
  have v0_ : m = m9 := Option.some.inj (congrArg (fun l => l[1]?) (hw.symm.trans hw2))
  have v1_ : row1 = row9 := Option.some.inj (congrArg (fun l => l[2]?) (hw.symm.trans hw2))
  have v2_ : cue = cue9 := Option.some.inj (congrArg (fun l => l[3]?) (hw.symm.trans hw2))
  subst v0_
  subst v1_
  subst v2_
  exact ⟨⟨by omega, trivial⟩, trivial, ⟨rfl, hw, e0.symm⟩, by unfold rxmLME_0 rxmLME_1; omega⟩
theorem rxgLME_0_0 {X : (Nat → Int → Int) → Prop} {S0 : Nat → Int → Int} {ws : List Int} (hP : rxPLME S0 ws) : bx_obC rxL X S0 rxCLME.2.2.1 (rxILME S0 ws) (rxmLME S0 ws) 0 rxzLME_0 rxoLME_0_0 := by
  intro S S' r r' hinv hX hin hsm_ hseg
  obtain ⟨I0, I1, h0_, hr_, b_, f_, d_⟩ := bx_cl (evs := [(0, (0, 480), (0, 69), .inr (0, (11, 0)))]) (fvs := []) hseg (by decide +kernel) (by decide +kernel)
  have hinv : rxILME_0 S0 ws S (r 8) (r 9) (r 10) := hinv
  rw [← hr_ 8 (by decide), ← hr_ 9 (by decide), ← hr_ 10 (by decide)] at hinv
  obtain ⟨⟨l8, u8⟩, ⟨l9, u9⟩, ⟨l10, u10⟩, ⟨l11, u11⟩, -⟩ := b_
  obtain ⟨e0, w_⟩ := d_
  subst w_
  have g := rxcLME_0_0 hP hin I0 hinv l8 u8 l9 u9 l10 u10 l11 u11 e0
  refine ⟨bx_narP_ok (l := [(11, 0, 600000)]) g.1, bx_nfP_ok h0_ (fvs := []) (by decide +kernel) g.2.1, ?_, ?_⟩
  · show rxILME_1 S0 ws S' (bx_val [(0, 0), (0, 0), (0, 0), (0, 0), (0, 0), (0, 0), (0, 0), (0, 0), (8, 0), (9, 0), (10, 0), (11, 0)] r' 8) (bx_val [(0, 0), (0, 0), (0, 0), (0, 0), (0, 0), (0, 0), (0, 0), (0, 0), (8, 0), (9, 0), (10, 0), (11, 0)] r' 9) (bx_val [(0, 0), (0, 0), (0, 0), (0, 0), (0, 0), (0, 0), (0, 0), (0, 0), (8, 0), (9, 0), (10, 0), (11, 0)] r' 10) (bx_val [(0, 0), (0, 0), (0, 0), (0, 0), (0, 0), (0, 0), (0, 0), (0, 0), (8, 0), (9, 0), (10, 0), (11, 0)] r' 11)
    rw [bx_val_x (n := 8) (e := (8, 0)) h0_ rfl, bx_val_x (n := 9) (e := (9, 0)) h0_ rfl, bx_val_x (n := 10) (e := (10, 0)) h0_ rfl, bx_val_x (n := 11) (e := (11, 0)) h0_ rfl]
    exact g.2.2.1
  · show rxmLME_1 S0 ws S' (bx_val [(0, 0), (0, 0), (0, 0), (0, 0), (0, 0), (0, 0), (0, 0), (0, 0), (8, 0), (9, 0), (10, 0), (11, 0)] r' 8) (bx_val [(0, 0), (0, 0), (0, 0), (0, 0), (0, 0), (0, 0), (0, 0), (0, 0), (8, 0), (9, 0), (10, 0), (11, 0)] r' 9) (bx_val [(0, 0), (0, 0), (0, 0), (0, 0), (0, 0), (0, 0), (0, 0), (0, 0), (8, 0), (9, 0), (10, 0), (11, 0)] r' 10) (bx_val [(0, 0), (0, 0), (0, 0), (0, 0), (0, 0), (0, 0), (0, 0), (0, 0), (8, 0), (9, 0), (10, 0), (11, 0)] r' 11) < rxmLME_0 S0 ws S' (r 8) (r 9) (r 10)
    rw [bx_val_x (n := 8) (e := (8, 0)) h0_ rfl, bx_val_x (n := 9) (e := (9, 0)) h0_ rfl, bx_val_x (n := 10) (e := (10, 0)) h0_ rfl, bx_val_x (n := 11) (e := (11, 0)) h0_ rfl, ← hr_ 8 (by decide), ← hr_ 9 (by decide), ← hr_ 10 (by decide)]
    exact g.2.2.2
theorem rxcLME_1_0 {S0 : Nat → Int → Int} {ws : List Int} {S : Nat → Int → Int} {m row1 cue wy : Int} (hP : rxPLME S0 ws) (hin : bx_same rxL (bx_mdl rxCLME.2.2.1) S0 S) (I0 : bx_Inv rxL S) (hinv : rxILME_1 S0 ws S m row1 cue wy) (l8 : 1 ≤ m) (u8 : m ≤ 3) (l9 : 0 ≤ row1) (u9 : row1 ≤ 3) (l10 : 0 ≤ cue) (u10 : cue ≤ 5) (l11 : 0 ≤ wy) (u11 : wy ≤ 600000) : (True) ∧ (True) ∧ rxILME_2 S0 ws (bx_up S 480 69 (wy + 1)) m row1 cue 0 0 ∧ rxmLME_2 S0 ws (bx_up S 480 69 (wy + 1)) m row1 cue 0 0 < rxmLME_1 S0 ws S m row1 cue wy := by
  obtain ⟨rfl, hw, hwy⟩ := hinv
  have h6 := rxN6 I0
  exact ⟨trivial, trivial, ⟨⟨by rw [bx_up_at, hwy], fun p j h => bx_up_ne (fun q => h ⟨q.1, Or.inl q.2⟩)⟩, bx_up_ne (by omega), hw, h6.1, -1, Or.inl ⟨rfl, fun i a b => by omega⟩, (if_pos (by omega)).symm⟩, by unfold rxmLME_1 rxmLME_2; omega⟩
theorem rxgLME_1_0 {X : (Nat → Int → Int) → Prop} {S0 : Nat → Int → Int} {ws : List Int} (hP : rxPLME S0 ws) : bx_obC rxL X S0 rxCLME.2.2.1 (rxILME S0 ws) (rxmLME S0 ws) 1 rxzLME_1 rxoLME_1_0 := by
  intro S S' r r' hinv hX hin hsm_ hseg
  obtain ⟨I0, I1, h0_, hr_, b_, f_, d_⟩ := bx_cl (evs := [(1, (0, 480), (0, 69), .inr (0, (11, 1)))]) (fvs := []) hseg (by decide +kernel) (by decide +kernel)
  have hinv : rxILME_1 S0 ws S (r 8) (r 9) (r 10) (r 11) := hinv
  rw [← hr_ 8 (by decide), ← hr_ 9 (by decide), ← hr_ 10 (by decide), ← hr_ 11 (by decide)] at hinv
  obtain ⟨⟨l8, u8⟩, ⟨l9, u9⟩, ⟨l10, u10⟩, ⟨l11, u11⟩, -⟩ := b_
  obtain ⟨T0, w_, w0⟩ := d_
  subst w0
  subst w_
  have g := rxcLME_1_0 hP hin I0 hinv l8 u8 l9 u9 l10 u10 l11 u11
  refine ⟨bx_narP_ok (l := []) g.1, bx_nfP_ok h0_ (fvs := []) (by decide +kernel) g.2.1, ?_, ?_⟩
  · show rxILME_2 S0 ws (bx_up T0 480 (69) (r' 11 + 1)) (bx_val [(0, 0), (0, 0), (0, 0), (0, 0), (0, 0), (0, 0), (0, 0), (0, 0), (8, 0), (9, 0), (10, 0), (0, 0), (0, 0)] r' 8) (bx_val [(0, 0), (0, 0), (0, 0), (0, 0), (0, 0), (0, 0), (0, 0), (0, 0), (8, 0), (9, 0), (10, 0), (0, 0), (0, 0)] r' 9) (bx_val [(0, 0), (0, 0), (0, 0), (0, 0), (0, 0), (0, 0), (0, 0), (0, 0), (8, 0), (9, 0), (10, 0), (0, 0), (0, 0)] r' 10) (bx_val [(0, 0), (0, 0), (0, 0), (0, 0), (0, 0), (0, 0), (0, 0), (0, 0), (8, 0), (9, 0), (10, 0), (0, 0), (0, 0)] r' 11) (bx_val [(0, 0), (0, 0), (0, 0), (0, 0), (0, 0), (0, 0), (0, 0), (0, 0), (8, 0), (9, 0), (10, 0), (0, 0), (0, 0)] r' 12)
    rw [bx_val_x (n := 8) (e := (8, 0)) h0_ rfl, bx_val_x (n := 9) (e := (9, 0)) h0_ rfl, bx_val_x (n := 10) (e := (10, 0)) h0_ rfl, bx_val_x (n := 11) (e := (0, 0)) h0_ rfl, bx_val_x (n := 12) (e := (0, 0)) h0_ rfl]
    exact g.2.2.1
  · show rxmLME_2 S0 ws (bx_up T0 480 (69) (r' 11 + 1)) (bx_val [(0, 0), (0, 0), (0, 0), (0, 0), (0, 0), (0, 0), (0, 0), (0, 0), (8, 0), (9, 0), (10, 0), (0, 0), (0, 0)] r' 8) (bx_val [(0, 0), (0, 0), (0, 0), (0, 0), (0, 0), (0, 0), (0, 0), (0, 0), (8, 0), (9, 0), (10, 0), (0, 0), (0, 0)] r' 9) (bx_val [(0, 0), (0, 0), (0, 0), (0, 0), (0, 0), (0, 0), (0, 0), (0, 0), (8, 0), (9, 0), (10, 0), (0, 0), (0, 0)] r' 10) (bx_val [(0, 0), (0, 0), (0, 0), (0, 0), (0, 0), (0, 0), (0, 0), (0, 0), (8, 0), (9, 0), (10, 0), (0, 0), (0, 0)] r' 11) (bx_val [(0, 0), (0, 0), (0, 0), (0, 0), (0, 0), (0, 0), (0, 0), (0, 0), (8, 0), (9, 0), (10, 0), (0, 0), (0, 0)] r' 12) < rxmLME_1 S0 ws T0 (r 8) (r 9) (r 10) (r 11)
    rw [bx_val_x (n := 8) (e := (8, 0)) h0_ rfl, bx_val_x (n := 9) (e := (9, 0)) h0_ rfl, bx_val_x (n := 10) (e := (10, 0)) h0_ rfl, bx_val_x (n := 11) (e := (0, 0)) h0_ rfl, bx_val_x (n := 12) (e := (0, 0)) h0_ rfl, ← hr_ 8 (by decide), ← hr_ 9 (by decide), ← hr_ 10 (by decide), ← hr_ 11 (by decide)]
    exact g.2.2.2
theorem rxcLME_2_0 {S0 : Nat → Int → Int} {ws : List Int} {S : Nat → Int → Int} {m row1 cue st k x13 x14 x15 : Int} (hP : rxPLME S0 ws) (hin : bx_same rxL (bx_mdl rxCLME.2.2.1) S0 S) (I0 : bx_Inv rxL S) (hinv : rxILME_2 S0 ws S m row1 cue st k) (l8 : 1 ≤ m) (u8 : m ≤ 3) (l9 : 0 ≤ row1) (u9 : row1 ≤ 3) (l10 : 0 ≤ cue) (u10 : cue ≤ 5) (l11 : (-1) ≤ st) (u11 : st ≤ 2) (l12 : 0 ≤ k) (u12 : k ≤ 11) (l13 : 1 ≤ x13) (u13 : x13 ≤ 12) (l14 : 0 ≤ x14) (u14 : x14 ≤ 775) (l15 : 0 ≤ x15) (u15 : x15 ≤ 3) (f0 : x15 = row1) (f1 : k < x13) (e2 : S 482 6 = x13) (e1 : S 512 k = x14) (e0 : S 482 x14 = x15) : (True) ∧ (True) ∧ rxILME_3 S0 ws S m row1 cue st k k ∧ rxmLME_3 S0 ws S m row1 cue st k k < rxmLME_2 S0 ws S m row1 cue st k := by
  obtain ⟨hu, h7, hw, hk, hz⟩ := hinv
  rw [ldU69_R hu 482 (by omega)] at e2 e0
  rw [ldU69_R hu 512 (by omega)] at e1
  have g : ldrR S0 k = row1 := by
    unfold ldrR
    rw [e1, e0]
    omega
  exact ⟨trivial, trivial, ⟨rfl, by omega, g, hu, h7, hw, hz⟩, by unfold rxmLME_2 rxmLME_3; omega⟩
theorem rxgLME_2_0 {X : (Nat → Int → Int) → Prop} {S0 : Nat → Int → Int} {ws : List Int} (hP : rxPLME S0 ws) : bx_obC rxL X S0 rxCLME.2.2.1 (rxILME S0 ws) (rxmLME S0 ws) 2 rxzLME_2 rxoLME_2_0 := by
  intro S S' r r' hinv hX hin hsm_ hseg
  obtain ⟨I0, I1, h0_, hr_, b_, f_, d_⟩ := bx_cl (evs := [(0, (0, 482), (14, 0), .inr (0, (15, 0))), (0, (0, 512), (12, 0), .inr (0, (14, 0))), (0, (0, 482), (0, 6), .inr (0, (13, 0)))]) (fvs := [(2, (15, 0), (9, 0), (0, 0)), (0, (12, 0), (13, 0), (0, 0))]) hseg (by decide +kernel) (by decide +kernel)
  have hinv : rxILME_2 S0 ws S (r 8) (r 9) (r 10) (r 11) (r 12) := hinv
  rw [← hr_ 8 (by decide), ← hr_ 9 (by decide), ← hr_ 10 (by decide), ← hr_ 11 (by decide), ← hr_ 12 (by decide)] at hinv
  obtain ⟨⟨l8, u8⟩, ⟨l9, u9⟩, ⟨l10, u10⟩, ⟨l11, u11⟩, ⟨l12, u12⟩, ⟨l13, u13⟩, ⟨l14, u14⟩, ⟨l15, u15⟩, -⟩ := b_
  obtain ⟨f0, f1, -⟩ := f_
  obtain ⟨e0, ⟨e1, ⟨e2, w_⟩⟩⟩ := d_
  subst w_
  have g := rxcLME_2_0 hP hin I0 hinv l8 u8 l9 u9 l10 u10 l11 u11 l12 u12 l13 u13 l14 u14 l15 u15 f0 f1 e2 e1 e0
  refine ⟨bx_narP_ok (l := []) g.1, bx_nfP_ok h0_ (fvs := []) (by decide +kernel) g.2.1, ?_, ?_⟩
  · show rxILME_3 S0 ws S' (bx_val [(0, 0), (0, 0), (0, 0), (0, 0), (0, 0), (0, 0), (0, 0), (0, 0), (8, 0), (9, 0), (10, 0), (11, 0), (12, 0), (12, 0)] r' 8) (bx_val [(0, 0), (0, 0), (0, 0), (0, 0), (0, 0), (0, 0), (0, 0), (0, 0), (8, 0), (9, 0), (10, 0), (11, 0), (12, 0), (12, 0)] r' 9) (bx_val [(0, 0), (0, 0), (0, 0), (0, 0), (0, 0), (0, 0), (0, 0), (0, 0), (8, 0), (9, 0), (10, 0), (11, 0), (12, 0), (12, 0)] r' 10) (bx_val [(0, 0), (0, 0), (0, 0), (0, 0), (0, 0), (0, 0), (0, 0), (0, 0), (8, 0), (9, 0), (10, 0), (11, 0), (12, 0), (12, 0)] r' 11) (bx_val [(0, 0), (0, 0), (0, 0), (0, 0), (0, 0), (0, 0), (0, 0), (0, 0), (8, 0), (9, 0), (10, 0), (11, 0), (12, 0), (12, 0)] r' 12) (bx_val [(0, 0), (0, 0), (0, 0), (0, 0), (0, 0), (0, 0), (0, 0), (0, 0), (8, 0), (9, 0), (10, 0), (11, 0), (12, 0), (12, 0)] r' 13)
    rw [bx_val_x (n := 8) (e := (8, 0)) h0_ rfl, bx_val_x (n := 9) (e := (9, 0)) h0_ rfl, bx_val_x (n := 10) (e := (10, 0)) h0_ rfl, bx_val_x (n := 11) (e := (11, 0)) h0_ rfl, bx_val_x (n := 12) (e := (12, 0)) h0_ rfl, bx_val_x (n := 13) (e := (12, 0)) h0_ rfl]
    exact g.2.2.1
  · show rxmLME_3 S0 ws S' (bx_val [(0, 0), (0, 0), (0, 0), (0, 0), (0, 0), (0, 0), (0, 0), (0, 0), (8, 0), (9, 0), (10, 0), (11, 0), (12, 0), (12, 0)] r' 8) (bx_val [(0, 0), (0, 0), (0, 0), (0, 0), (0, 0), (0, 0), (0, 0), (0, 0), (8, 0), (9, 0), (10, 0), (11, 0), (12, 0), (12, 0)] r' 9) (bx_val [(0, 0), (0, 0), (0, 0), (0, 0), (0, 0), (0, 0), (0, 0), (0, 0), (8, 0), (9, 0), (10, 0), (11, 0), (12, 0), (12, 0)] r' 10) (bx_val [(0, 0), (0, 0), (0, 0), (0, 0), (0, 0), (0, 0), (0, 0), (0, 0), (8, 0), (9, 0), (10, 0), (11, 0), (12, 0), (12, 0)] r' 11) (bx_val [(0, 0), (0, 0), (0, 0), (0, 0), (0, 0), (0, 0), (0, 0), (0, 0), (8, 0), (9, 0), (10, 0), (11, 0), (12, 0), (12, 0)] r' 12) (bx_val [(0, 0), (0, 0), (0, 0), (0, 0), (0, 0), (0, 0), (0, 0), (0, 0), (8, 0), (9, 0), (10, 0), (11, 0), (12, 0), (12, 0)] r' 13) < rxmLME_2 S0 ws S' (r 8) (r 9) (r 10) (r 11) (r 12)
    rw [bx_val_x (n := 8) (e := (8, 0)) h0_ rfl, bx_val_x (n := 9) (e := (9, 0)) h0_ rfl, bx_val_x (n := 10) (e := (10, 0)) h0_ rfl, bx_val_x (n := 11) (e := (11, 0)) h0_ rfl, bx_val_x (n := 12) (e := (12, 0)) h0_ rfl, bx_val_x (n := 13) (e := (12, 0)) h0_ rfl, ← hr_ 8 (by decide), ← hr_ 9 (by decide), ← hr_ 10 (by decide), ← hr_ 11 (by decide), ← hr_ 12 (by decide)]
    exact g.2.2.2
theorem rxcLME_2_1 {S0 : Nat → Int → Int} {ws : List Int} {S : Nat → Int → Int} {m row1 cue st k x13 x14 x15 : Int} (hP : rxPLME S0 ws) (hin : bx_same rxL (bx_mdl rxCLME.2.2.1) S0 S) (I0 : bx_Inv rxL S) (hinv : rxILME_2 S0 ws S m row1 cue st k) (l8 : 1 ≤ m) (u8 : m ≤ 3) (l9 : 0 ≤ row1) (u9 : row1 ≤ 3) (l10 : 0 ≤ cue) (u10 : cue ≤ 5) (l11 : (-1) ≤ st) (u11 : st ≤ 2) (l12 : 0 ≤ k) (u12 : k ≤ 11) (l13 : 1 ≤ x13) (u13 : x13 ≤ 12) (l14 : 0 ≤ x14) (u14 : x14 ≤ 775) (l15 : (-1) ≤ x15) (u15 : x15 ≤ 300) (f0 : x15 ≠ row1) (f1 : k < x13) (e2 : S 482 6 = x13) (e1 : S 512 k = x14) (e0 : S 482 x14 = x15) : (True) ∧ (True) ∧ rxILME_2 S0 ws S m row1 cue st (k + 1) ∧ rxmLME_2 S0 ws S m row1 cue st (k + 1) < rxmLME_2 S0 ws S m row1 cue st k := by
  obtain ⟨hu, h7, hw, hk, z, hz, hst⟩ := hinv
  rw [ldU69_R hu 482 (by omega)] at e2 e0
  rw [ldU69_R hu 512 (by omega)] at e1
  have g : ldrR S0 k ≠ row1 := by
    unfold ldrR
    rw [e1, e0]
    omega
  exact ⟨trivial, trivial, ⟨hu, h7, hw, by omega, z, ldMz_s (by omega) hz (fun q => absurd q g), hst⟩, by unfold rxmLME_2; omega⟩
theorem rxgLME_2_1 {X : (Nat → Int → Int) → Prop} {S0 : Nat → Int → Int} {ws : List Int} (hP : rxPLME S0 ws) : bx_obC rxL X S0 rxCLME.2.2.1 (rxILME S0 ws) (rxmLME S0 ws) 2 rxzLME_2 rxoLME_2_1 := by
  intro S S' r r' hinv hX hin hsm_ hseg
  obtain ⟨I0, I1, h0_, hr_, b_, f_, d_⟩ := bx_cl (evs := [(0, (0, 482), (14, 0), .inr (0, (15, 0))), (0, (0, 512), (12, 0), .inr (0, (14, 0))), (0, (0, 482), (0, 6), .inr (0, (13, 0)))]) (fvs := [(3, (15, 0), (9, 0), (0, 0)), (0, (12, 0), (13, 0), (0, 0))]) hseg (by decide +kernel) (by decide +kernel)
  have hinv : rxILME_2 S0 ws S (r 8) (r 9) (r 10) (r 11) (r 12) := hinv
  rw [← hr_ 8 (by decide), ← hr_ 9 (by decide), ← hr_ 10 (by decide), ← hr_ 11 (by decide), ← hr_ 12 (by decide)] at hinv
  obtain ⟨⟨l8, u8⟩, ⟨l9, u9⟩, ⟨l10, u10⟩, ⟨l11, u11⟩, ⟨l12, u12⟩, ⟨l13, u13⟩, ⟨l14, u14⟩, ⟨l15, u15⟩, -⟩ := b_
  obtain ⟨f0, f1, -⟩ := f_
  obtain ⟨e0, ⟨e1, ⟨e2, w_⟩⟩⟩ := d_
  subst w_
  have g := rxcLME_2_1 hP hin I0 hinv l8 u8 l9 u9 l10 u10 l11 u11 l12 u12 l13 u13 l14 u14 l15 u15 f0 f1 e2 e1 e0
  refine ⟨bx_narP_ok (l := []) g.1, bx_nfP_ok h0_ (fvs := []) (by decide +kernel) g.2.1, ?_, ?_⟩
  · show rxILME_2 S0 ws S' (bx_val [(0, 0), (0, 0), (0, 0), (0, 0), (0, 0), (0, 0), (0, 0), (0, 0), (8, 0), (9, 0), (10, 0), (11, 0), (12, 1)] r' 8) (bx_val [(0, 0), (0, 0), (0, 0), (0, 0), (0, 0), (0, 0), (0, 0), (0, 0), (8, 0), (9, 0), (10, 0), (11, 0), (12, 1)] r' 9) (bx_val [(0, 0), (0, 0), (0, 0), (0, 0), (0, 0), (0, 0), (0, 0), (0, 0), (8, 0), (9, 0), (10, 0), (11, 0), (12, 1)] r' 10) (bx_val [(0, 0), (0, 0), (0, 0), (0, 0), (0, 0), (0, 0), (0, 0), (0, 0), (8, 0), (9, 0), (10, 0), (11, 0), (12, 1)] r' 11) (bx_val [(0, 0), (0, 0), (0, 0), (0, 0), (0, 0), (0, 0), (0, 0), (0, 0), (8, 0), (9, 0), (10, 0), (11, 0), (12, 1)] r' 12)
    rw [bx_val_x (n := 8) (e := (8, 0)) h0_ rfl, bx_val_x (n := 9) (e := (9, 0)) h0_ rfl, bx_val_x (n := 10) (e := (10, 0)) h0_ rfl, bx_val_x (n := 11) (e := (11, 0)) h0_ rfl, bx_val_x (n := 12) (e := (12, 1)) h0_ rfl]
    exact g.2.2.1
  · show rxmLME_2 S0 ws S' (bx_val [(0, 0), (0, 0), (0, 0), (0, 0), (0, 0), (0, 0), (0, 0), (0, 0), (8, 0), (9, 0), (10, 0), (11, 0), (12, 1)] r' 8) (bx_val [(0, 0), (0, 0), (0, 0), (0, 0), (0, 0), (0, 0), (0, 0), (0, 0), (8, 0), (9, 0), (10, 0), (11, 0), (12, 1)] r' 9) (bx_val [(0, 0), (0, 0), (0, 0), (0, 0), (0, 0), (0, 0), (0, 0), (0, 0), (8, 0), (9, 0), (10, 0), (11, 0), (12, 1)] r' 10) (bx_val [(0, 0), (0, 0), (0, 0), (0, 0), (0, 0), (0, 0), (0, 0), (0, 0), (8, 0), (9, 0), (10, 0), (11, 0), (12, 1)] r' 11) (bx_val [(0, 0), (0, 0), (0, 0), (0, 0), (0, 0), (0, 0), (0, 0), (0, 0), (8, 0), (9, 0), (10, 0), (11, 0), (12, 1)] r' 12) < rxmLME_2 S0 ws S' (r 8) (r 9) (r 10) (r 11) (r 12)
    rw [bx_val_x (n := 8) (e := (8, 0)) h0_ rfl, bx_val_x (n := 9) (e := (9, 0)) h0_ rfl, bx_val_x (n := 10) (e := (10, 0)) h0_ rfl, bx_val_x (n := 11) (e := (11, 0)) h0_ rfl, bx_val_x (n := 12) (e := (12, 1)) h0_ rfl, ← hr_ 8 (by decide), ← hr_ 9 (by decide), ← hr_ 10 (by decide), ← hr_ 11 (by decide), ← hr_ 12 (by decide)]
    exact g.2.2.2
theorem rxcLME_2_2 {S0 : Nat → Int → Int} {ws : List Int} {S : Nat → Int → Int} {m row1 cue st k x13 : Int} (hP : rxPLME S0 ws) (hin : bx_same rxL (bx_mdl rxCLME.2.2.1) S0 S) (I0 : bx_Inv rxL S) (hinv : rxILME_2 S0 ws S m row1 cue st k) (l8 : 1 ≤ m) (u8 : m ≤ 3) (l9 : 0 ≤ row1) (u9 : row1 ≤ 3) (l10 : 0 ≤ cue) (u10 : cue ≤ 5) (l11 : (-1) ≤ st) (u11 : st ≤ 2) (l12 : 0 ≤ k) (u12 : k ≤ 12) (l13 : 0 ≤ x13) (u13 : x13 ≤ 12) (f0 : x13 ≤ k) (e0 : S 482 6 = x13) : (True) ∧ (True) ∧ rxILME_6 S0 ws S m row1 cue st 0 ∧ rxmLME_6 S0 ws S m row1 cue st 0 < rxmLME_2 S0 ws S m row1 cue st k := by
  obtain ⟨hu, h7, hw, hk, z, hz, hst⟩ := hinv
  obtain ⟨m9, row9, cue9, hw2, hord, p1, p2, p3, p4⟩ := hP
  have v0_ : m = m9 := Option.some.inj (congrArg (fun l => l[1]?) (hw.symm.trans hw2))
  have v1_ : row1 = row9 := Option.some.inj (congrArg (fun l => l[2]?) (hw.symm.trans hw2))
  have v2_ : cue = cue9 := Option.some.inj (congrArg (fun l => l[3]?) (hw.symm.trans hw2))
  subst v0_
  subst v1_
  subst v2_
  rw [ldU69_R hu 482 (by omega)] at e0
  exact ⟨trivial, trivial, ⟨hu, hw, by omega, ⟨z, by rw [show S0 482 6 = k by omega]; exact hz, hst⟩, by rw [h7, show ldgs m cue st (S0 514) 0 = 0 by simp [ldgs], Nat.or_zero]; omega⟩, by unfold rxmLME_2 rxmLME_6; omega⟩
theorem rxgLME_2_2 {X : (Nat → Int → Int) → Prop} {S0 : Nat → Int → Int} {ws : List Int} (hP : rxPLME S0 ws) : bx_obC rxL X S0 rxCLME.2.2.1 (rxILME S0 ws) (rxmLME S0 ws) 2 rxzLME_2 rxoLME_2_2 := by
  intro S S' r r' hinv hX hin hsm_ hseg
  obtain ⟨I0, I1, h0_, hr_, b_, f_, d_⟩ := bx_cl (evs := [(0, (0, 482), (0, 6), .inr (0, (13, 0)))]) (fvs := [(1, (13, 0), (12, 0), (0, 0))]) hseg (by decide +kernel) (by decide +kernel)
  have hinv : rxILME_2 S0 ws S (r 8) (r 9) (r 10) (r 11) (r 12) := hinv
  rw [← hr_ 8 (by decide), ← hr_ 9 (by decide), ← hr_ 10 (by decide), ← hr_ 11 (by decide), ← hr_ 12 (by decide)] at hinv
  obtain ⟨⟨l8, u8⟩, ⟨l9, u9⟩, ⟨l10, u10⟩, ⟨l11, u11⟩, ⟨l12, u12⟩, ⟨l13, u13⟩, -⟩ := b_
  obtain ⟨f0, -⟩ := f_
  obtain ⟨e0, w_⟩ := d_
  subst w_
  have g := rxcLME_2_2 hP hin I0 hinv l8 u8 l9 u9 l10 u10 l11 u11 l12 u12 l13 u13 f0 e0
  refine ⟨bx_narP_ok (l := []) g.1, bx_nfP_ok h0_ (fvs := []) (by decide +kernel) g.2.1, ?_, ?_⟩
  · show rxILME_6 S0 ws S' (bx_val [(0, 0), (0, 0), (0, 0), (0, 0), (0, 0), (0, 0), (0, 0), (0, 0), (8, 0), (9, 0), (10, 0), (11, 0), (0, 0)] r' 8) (bx_val [(0, 0), (0, 0), (0, 0), (0, 0), (0, 0), (0, 0), (0, 0), (0, 0), (8, 0), (9, 0), (10, 0), (11, 0), (0, 0)] r' 9) (bx_val [(0, 0), (0, 0), (0, 0), (0, 0), (0, 0), (0, 0), (0, 0), (0, 0), (8, 0), (9, 0), (10, 0), (11, 0), (0, 0)] r' 10) (bx_val [(0, 0), (0, 0), (0, 0), (0, 0), (0, 0), (0, 0), (0, 0), (0, 0), (8, 0), (9, 0), (10, 0), (11, 0), (0, 0)] r' 11) (bx_val [(0, 0), (0, 0), (0, 0), (0, 0), (0, 0), (0, 0), (0, 0), (0, 0), (8, 0), (9, 0), (10, 0), (11, 0), (0, 0)] r' 12)
    rw [bx_val_x (n := 8) (e := (8, 0)) h0_ rfl, bx_val_x (n := 9) (e := (9, 0)) h0_ rfl, bx_val_x (n := 10) (e := (10, 0)) h0_ rfl, bx_val_x (n := 11) (e := (11, 0)) h0_ rfl, bx_val_x (n := 12) (e := (0, 0)) h0_ rfl]
    exact g.2.2.1
  · show rxmLME_6 S0 ws S' (bx_val [(0, 0), (0, 0), (0, 0), (0, 0), (0, 0), (0, 0), (0, 0), (0, 0), (8, 0), (9, 0), (10, 0), (11, 0), (0, 0)] r' 8) (bx_val [(0, 0), (0, 0), (0, 0), (0, 0), (0, 0), (0, 0), (0, 0), (0, 0), (8, 0), (9, 0), (10, 0), (11, 0), (0, 0)] r' 9) (bx_val [(0, 0), (0, 0), (0, 0), (0, 0), (0, 0), (0, 0), (0, 0), (0, 0), (8, 0), (9, 0), (10, 0), (11, 0), (0, 0)] r' 10) (bx_val [(0, 0), (0, 0), (0, 0), (0, 0), (0, 0), (0, 0), (0, 0), (0, 0), (8, 0), (9, 0), (10, 0), (11, 0), (0, 0)] r' 11) (bx_val [(0, 0), (0, 0), (0, 0), (0, 0), (0, 0), (0, 0), (0, 0), (0, 0), (8, 0), (9, 0), (10, 0), (11, 0), (0, 0)] r' 12) < rxmLME_2 S0 ws S' (r 8) (r 9) (r 10) (r 11) (r 12)
    rw [bx_val_x (n := 8) (e := (8, 0)) h0_ rfl, bx_val_x (n := 9) (e := (9, 0)) h0_ rfl, bx_val_x (n := 10) (e := (10, 0)) h0_ rfl, bx_val_x (n := 11) (e := (11, 0)) h0_ rfl, bx_val_x (n := 12) (e := (0, 0)) h0_ rfl, ← hr_ 8 (by decide), ← hr_ 9 (by decide), ← hr_ 10 (by decide), ← hr_ 11 (by decide), ← hr_ 12 (by decide)]
    exact g.2.2.2
theorem rxcLME_4_0 {S0 : Nat → Int → Int} {ws : List Int} {S : Nat → Int → Int} {m row1 cue st k a il x15 x16 x17 x18 : Int} (hP : rxPLME S0 ws) (hin : bx_same rxL (bx_mdl rxCLME.2.2.1) S0 S) (I0 : bx_Inv rxL S) (hinv : rxILME_4 S0 ws S m row1 cue st k a il) (l8 : 1 ≤ m) (u8 : m ≤ 3) (l9 : 0 ≤ row1) (u9 : row1 ≤ 3) (l10 : 0 ≤ cue) (u10 : cue ≤ 5) (l11 : (-1) ≤ st) (u11 : st ≤ 2) (l12 : 0 ≤ k) (u12 : k ≤ 11) (l13 : 0 ≤ a) (u13 : a ≤ 11) (l14 : 1 ≤ il) (u14 : il ≤ 1) (l15 : 0 ≤ x15) (u15 : x15 ≤ 2) (l16 : 0 ≤ x16) (u16 : x16 ≤ 12) (l17 : 0 ≤ x17) (u17 : x17 ≤ 775) (l18 : (-1) ≤ x18) (u18 : x18 ≤ 300) (f0 : x16 = 6 * (x15)) (f1 : il ≠ 0) (e2 : S 513 k = x15) (e1 : S 512 k = x17) (e0 : S 482 (x17 + 1) = x18) : ((0 ≤ x18 ∧ x18 ≤ 5) ∧ True) ∧ (True) ∧ rxILME_5 S0 ws S m row1 cue k x16 x18 ∧ rxmLME_5 S0 ws S m row1 cue k x16 x18 < rxmLME_4 S0 ws S m row1 cue st k a il := by
  obtain ⟨h1, h0, hk, hR, hu, h7, hw, hz⟩ := hinv
  obtain ⟨m9, row9, cue9, hw2, hord, p1, p2, p3, p4⟩ := hP
  have v0_ : m = m9 := Option.some.inj (congrArg (fun l => l[1]?) (hw.symm.trans hw2))
  have v1_ : row1 = row9 := Option.some.inj (congrArg (fun l => l[2]?) (hw.symm.trans hw2))
  have v2_ : cue = cue9 := Option.some.inj (congrArg (fun l => l[3]?) (hw.symm.trans hw2))
  subst v0_
  subst v1_
  subst v2_
  obtain ⟨j, j0, j1, hj⟩ := hord k (by omega) hk
  have hd := rxDeed1 I0 j0 j1
  rw [ldU69_R hu 482 (by omega)] at hd e0
  rw [ldU69_R hu 512 (by omega)] at e1
  rw [ldU69_R hu 513 (by omega)] at e2
  have ec : ldrC S0 k = S0 482 (743 + 3 * j) := by
    unfold ldrC
    rw [hj, show 742 + 3 * j + 1 = 743 + 3 * j by omega]
  rw [show x17 + 1 = 743 + 3 * j by omega] at e0
  exact ⟨⟨by omega, trivial⟩, trivial, ⟨by omega, by omega, h1 (by omega), hk, hR, hu, h7, hw⟩, by unfold rxmLME_4 rxmLME_5; omega⟩
theorem rxgLME_4_0 {X : (Nat → Int → Int) → Prop} {S0 : Nat → Int → Int} {ws : List Int} (hP : rxPLME S0 ws) : bx_obC rxL X S0 rxCLME.2.2.1 (rxILME S0 ws) (rxmLME S0 ws) 4 rxzLME_4 rxoLME_4_0 := by
  intro S S' r r' hinv hX hin hsm_ hseg
  obtain ⟨I0, I1, h0_, hr_, b_, f_, d_⟩ := bx_cl (evs := [(0, (0, 482), (17, 1), .inr (0, (18, 0))), (0, (0, 512), (12, 0), .inr (0, (17, 0))), (0, (0, 513), (12, 0), .inr (0, (15, 0)))]) (fvs := [(4, (16, 0), (15, 0), (0, 6)), (3, (14, 0), (0, 0), (0, 0))]) hseg (by decide +kernel) (by decide +kernel)
  have hinv : rxILME_4 S0 ws S (r 8) (r 9) (r 10) (r 11) (r 12) (r 13) (r 14) := hinv
  rw [← hr_ 8 (by decide), ← hr_ 9 (by decide), ← hr_ 10 (by decide), ← hr_ 11 (by decide), ← hr_ 12 (by decide), ← hr_ 13 (by decide), ← hr_ 14 (by decide)] at hinv
  obtain ⟨⟨l8, u8⟩, ⟨l9, u9⟩, ⟨l10, u10⟩, ⟨l11, u11⟩, ⟨l12, u12⟩, ⟨l13, u13⟩, ⟨l14, u14⟩, ⟨l15, u15⟩, ⟨l16, u16⟩, ⟨l17, u17⟩, ⟨l18, u18⟩, -⟩ := b_
  obtain ⟨f0, f1, -⟩ := f_
  obtain ⟨e0, ⟨e1, ⟨e2, w_⟩⟩⟩ := d_
  subst w_
  have g := rxcLME_4_0 hP hin I0 hinv l8 u8 l9 u9 l10 u10 l11 u11 l12 u12 l13 u13 l14 u14 l15 u15 l16 u16 l17 u17 l18 u18 f0 f1 e2 e1 e0
  refine ⟨bx_narP_ok (l := [(18, 0, 5)]) g.1, bx_nfP_ok h0_ (fvs := []) (by decide +kernel) g.2.1, ?_, ?_⟩
  · show rxILME_5 S0 ws S' (bx_val [(0, 0), (0, 0), (0, 0), (0, 0), (0, 0), (0, 0), (0, 0), (0, 0), (8, 0), (9, 0), (10, 0), (12, 0), (16, 0), (18, 0)] r' 8) (bx_val [(0, 0), (0, 0), (0, 0), (0, 0), (0, 0), (0, 0), (0, 0), (0, 0), (8, 0), (9, 0), (10, 0), (12, 0), (16, 0), (18, 0)] r' 9) (bx_val [(0, 0), (0, 0), (0, 0), (0, 0), (0, 0), (0, 0), (0, 0), (0, 0), (8, 0), (9, 0), (10, 0), (12, 0), (16, 0), (18, 0)] r' 10) (bx_val [(0, 0), (0, 0), (0, 0), (0, 0), (0, 0), (0, 0), (0, 0), (0, 0), (8, 0), (9, 0), (10, 0), (12, 0), (16, 0), (18, 0)] r' 11) (bx_val [(0, 0), (0, 0), (0, 0), (0, 0), (0, 0), (0, 0), (0, 0), (0, 0), (8, 0), (9, 0), (10, 0), (12, 0), (16, 0), (18, 0)] r' 12) (bx_val [(0, 0), (0, 0), (0, 0), (0, 0), (0, 0), (0, 0), (0, 0), (0, 0), (8, 0), (9, 0), (10, 0), (12, 0), (16, 0), (18, 0)] r' 13)
    rw [bx_val_x (n := 8) (e := (8, 0)) h0_ rfl, bx_val_x (n := 9) (e := (9, 0)) h0_ rfl, bx_val_x (n := 10) (e := (10, 0)) h0_ rfl, bx_val_x (n := 11) (e := (12, 0)) h0_ rfl, bx_val_x (n := 12) (e := (16, 0)) h0_ rfl, bx_val_x (n := 13) (e := (18, 0)) h0_ rfl]
    exact g.2.2.1
  · show rxmLME_5 S0 ws S' (bx_val [(0, 0), (0, 0), (0, 0), (0, 0), (0, 0), (0, 0), (0, 0), (0, 0), (8, 0), (9, 0), (10, 0), (12, 0), (16, 0), (18, 0)] r' 8) (bx_val [(0, 0), (0, 0), (0, 0), (0, 0), (0, 0), (0, 0), (0, 0), (0, 0), (8, 0), (9, 0), (10, 0), (12, 0), (16, 0), (18, 0)] r' 9) (bx_val [(0, 0), (0, 0), (0, 0), (0, 0), (0, 0), (0, 0), (0, 0), (0, 0), (8, 0), (9, 0), (10, 0), (12, 0), (16, 0), (18, 0)] r' 10) (bx_val [(0, 0), (0, 0), (0, 0), (0, 0), (0, 0), (0, 0), (0, 0), (0, 0), (8, 0), (9, 0), (10, 0), (12, 0), (16, 0), (18, 0)] r' 11) (bx_val [(0, 0), (0, 0), (0, 0), (0, 0), (0, 0), (0, 0), (0, 0), (0, 0), (8, 0), (9, 0), (10, 0), (12, 0), (16, 0), (18, 0)] r' 12) (bx_val [(0, 0), (0, 0), (0, 0), (0, 0), (0, 0), (0, 0), (0, 0), (0, 0), (8, 0), (9, 0), (10, 0), (12, 0), (16, 0), (18, 0)] r' 13) < rxmLME_4 S0 ws S' (r 8) (r 9) (r 10) (r 11) (r 12) (r 13) (r 14)
    rw [bx_val_x (n := 8) (e := (8, 0)) h0_ rfl, bx_val_x (n := 9) (e := (9, 0)) h0_ rfl, bx_val_x (n := 10) (e := (10, 0)) h0_ rfl, bx_val_x (n := 11) (e := (12, 0)) h0_ rfl, bx_val_x (n := 12) (e := (16, 0)) h0_ rfl, bx_val_x (n := 13) (e := (18, 0)) h0_ rfl, ← hr_ 8 (by decide), ← hr_ 9 (by decide), ← hr_ 10 (by decide), ← hr_ 11 (by decide), ← hr_ 12 (by decide), ← hr_ 13 (by decide), ← hr_ 14 (by decide)]
    exact g.2.2.2
theorem rxcLME_4_1 {S0 : Nat → Int → Int} {ws : List Int} {S : Nat → Int → Int} {m row1 cue st k a il : Int} (hP : rxPLME S0 ws) (hin : bx_same rxL (bx_mdl rxCLME.2.2.1) S0 S) (I0 : bx_Inv rxL S) (hinv : rxILME_4 S0 ws S m row1 cue st k a il) (l8 : 1 ≤ m) (u8 : m ≤ 3) (l9 : 0 ≤ row1) (u9 : row1 ≤ 3) (l10 : 0 ≤ cue) (u10 : cue ≤ 5) (l11 : (-1) ≤ st) (u11 : st ≤ 2) (l12 : 0 ≤ k) (u12 : k ≤ 11) (l13 : 0 ≤ a) (u13 : a ≤ 11) (l14 : 0 ≤ il) (u14 : il ≤ 0) : (True) ∧ (True) ∧ rxILME_2 S0 ws S m row1 cue st (k + 1) ∧ rxmLME_2 S0 ws S m row1 cue st (k + 1) < rxmLME_4 S0 ws S m row1 cue st k a il := by
  obtain ⟨h1, h0, hk, hR, hu, h7, hw, z, hz, hst⟩ := hinv
  exact ⟨trivial, trivial, ⟨hu, h7, hw, by omega, z, ldMz_s (by omega) hz (fun _ => h0 (by omega)), hst⟩, by unfold rxmLME_4 rxmLME_2; omega⟩
theorem rxgLME_4_1 {X : (Nat → Int → Int) → Prop} {S0 : Nat → Int → Int} {ws : List Int} (hP : rxPLME S0 ws) : bx_obC rxL X S0 rxCLME.2.2.1 (rxILME S0 ws) (rxmLME S0 ws) 4 rxzLME_4 rxoLME_4_1 := by
  intro S S' r r' hinv hX hin hsm_ hseg
  obtain ⟨I0, I1, h0_, hr_, b_, f_, d_⟩ := bx_cl (evs := []) (fvs := []) hseg (by decide +kernel) (by decide +kernel)
  have hinv : rxILME_4 S0 ws S (r 8) (r 9) (r 10) (r 11) (r 12) (r 13) (r 14) := hinv
  rw [← hr_ 8 (by decide), ← hr_ 9 (by decide), ← hr_ 10 (by decide), ← hr_ 11 (by decide), ← hr_ 12 (by decide), ← hr_ 13 (by decide), ← hr_ 14 (by decide)] at hinv
  obtain ⟨⟨l8, u8⟩, ⟨l9, u9⟩, ⟨l10, u10⟩, ⟨l11, u11⟩, ⟨l12, u12⟩, ⟨l13, u13⟩, ⟨l14, u14⟩, -⟩ := b_
  have w_ := d_
  subst w_
  have g := rxcLME_4_1 hP hin I0 hinv l8 u8 l9 u9 l10 u10 l11 u11 l12 u12 l13 u13 l14 u14
  refine ⟨bx_narP_ok (l := []) g.1, bx_nfP_ok h0_ (fvs := []) (by decide +kernel) g.2.1, ?_, ?_⟩
  · show rxILME_2 S0 ws S' (bx_val [(0, 0), (0, 0), (0, 0), (0, 0), (0, 0), (0, 0), (0, 0), (0, 0), (8, 0), (9, 0), (10, 0), (11, 0), (12, 1)] r' 8) (bx_val [(0, 0), (0, 0), (0, 0), (0, 0), (0, 0), (0, 0), (0, 0), (0, 0), (8, 0), (9, 0), (10, 0), (11, 0), (12, 1)] r' 9) (bx_val [(0, 0), (0, 0), (0, 0), (0, 0), (0, 0), (0, 0), (0, 0), (0, 0), (8, 0), (9, 0), (10, 0), (11, 0), (12, 1)] r' 10) (bx_val [(0, 0), (0, 0), (0, 0), (0, 0), (0, 0), (0, 0), (0, 0), (0, 0), (8, 0), (9, 0), (10, 0), (11, 0), (12, 1)] r' 11) (bx_val [(0, 0), (0, 0), (0, 0), (0, 0), (0, 0), (0, 0), (0, 0), (0, 0), (8, 0), (9, 0), (10, 0), (11, 0), (12, 1)] r' 12)
    rw [bx_val_x (n := 8) (e := (8, 0)) h0_ rfl, bx_val_x (n := 9) (e := (9, 0)) h0_ rfl, bx_val_x (n := 10) (e := (10, 0)) h0_ rfl, bx_val_x (n := 11) (e := (11, 0)) h0_ rfl, bx_val_x (n := 12) (e := (12, 1)) h0_ rfl]
    exact g.2.2.1
  · show rxmLME_2 S0 ws S' (bx_val [(0, 0), (0, 0), (0, 0), (0, 0), (0, 0), (0, 0), (0, 0), (0, 0), (8, 0), (9, 0), (10, 0), (11, 0), (12, 1)] r' 8) (bx_val [(0, 0), (0, 0), (0, 0), (0, 0), (0, 0), (0, 0), (0, 0), (0, 0), (8, 0), (9, 0), (10, 0), (11, 0), (12, 1)] r' 9) (bx_val [(0, 0), (0, 0), (0, 0), (0, 0), (0, 0), (0, 0), (0, 0), (0, 0), (8, 0), (9, 0), (10, 0), (11, 0), (12, 1)] r' 10) (bx_val [(0, 0), (0, 0), (0, 0), (0, 0), (0, 0), (0, 0), (0, 0), (0, 0), (8, 0), (9, 0), (10, 0), (11, 0), (12, 1)] r' 11) (bx_val [(0, 0), (0, 0), (0, 0), (0, 0), (0, 0), (0, 0), (0, 0), (0, 0), (8, 0), (9, 0), (10, 0), (11, 0), (12, 1)] r' 12) < rxmLME_4 S0 ws S' (r 8) (r 9) (r 10) (r 11) (r 12) (r 13) (r 14)
    rw [bx_val_x (n := 8) (e := (8, 0)) h0_ rfl, bx_val_x (n := 9) (e := (9, 0)) h0_ rfl, bx_val_x (n := 10) (e := (10, 0)) h0_ rfl, bx_val_x (n := 11) (e := (11, 0)) h0_ rfl, bx_val_x (n := 12) (e := (12, 1)) h0_ rfl, ← hr_ 8 (by decide), ← hr_ 9 (by decide), ← hr_ 10 (by decide), ← hr_ 11 (by decide), ← hr_ 12 (by decide), ← hr_ 13 (by decide), ← hr_ 14 (by decide)]
    exact g.2.2.2
theorem rxcLME_5_0 {S0 : Nat → Int → Int} {ws : List Int} {S : Nat → Int → Int} {m row1 cue k b c x14 x15 : Int} (hP : rxPLME S0 ws) (hin : bx_same rxL (bx_mdl rxCLME.2.2.1) S0 S) (I0 : bx_Inv rxL S) (hinv : rxILME_5 S0 ws S m row1 cue k b c) (l8 : 1 ≤ m) (u8 : m ≤ 3) (l9 : 0 ≤ row1) (u9 : row1 ≤ 3) (l10 : 0 ≤ cue) (u10 : cue ≤ 5) (l11 : 0 ≤ k) (u11 : k ≤ 11) (l12 : 0 ≤ b) (u12 : b ≤ 12) (l13 : 0 ≤ c) (u13 : c ≤ 5) (l14 : 0 ≤ x14) (u14 : x14 ≤ 17) (l15 : (-1) ≤ x15) (u15 : x15 ≤ 2) (f0 : x14 = b + c) (e0 : S 515 x14 = x15) : (True) ∧ (True) ∧ rxILME_2 S0 ws S m row1 cue x15 (k + 1) ∧ rxmLME_2 S0 ws S m row1 cue x15 (k + 1) < rxmLME_5 S0 ws S m row1 cue k b c := by
  obtain ⟨hb, hc, hl, hk, hR, hu, h7, hw⟩ := hinv
  rw [ldU69_R hu 515 (by omega)] at e0
  refine ⟨trivial, trivial, ⟨hu, h7, hw, by omega, k, Or.inr ⟨by omega, by omega, hR, fun i a b => by omega⟩, ?_⟩, by unfold rxmLME_5 rxmLME_2; omega⟩
  unfold lds
  rw [if_neg (by omega), show 6 * S0 513 k + ldrC S0 k = x14 by omega]
  exact e0.symm
theorem rxgLME_5_0 {X : (Nat → Int → Int) → Prop} {S0 : Nat → Int → Int} {ws : List Int} (hP : rxPLME S0 ws) : bx_obC rxL X S0 rxCLME.2.2.1 (rxILME S0 ws) (rxmLME S0 ws) 5 rxzLME_5 rxoLME_5_0 := by
  intro S S' r r' hinv hX hin hsm_ hseg
  obtain ⟨I0, I1, h0_, hr_, b_, f_, d_⟩ := bx_cl (evs := [(0, (0, 515), (14, 0), .inr (0, (15, 0)))]) (fvs := [(5, (14, 0), (12, 0), (13, 0))]) hseg (by decide +kernel) (by decide +kernel)
  have hinv : rxILME_5 S0 ws S (r 8) (r 9) (r 10) (r 11) (r 12) (r 13) := hinv
  rw [← hr_ 8 (by decide), ← hr_ 9 (by decide), ← hr_ 10 (by decide), ← hr_ 11 (by decide), ← hr_ 12 (by decide), ← hr_ 13 (by decide)] at hinv
  obtain ⟨⟨l8, u8⟩, ⟨l9, u9⟩, ⟨l10, u10⟩, ⟨l11, u11⟩, ⟨l12, u12⟩, ⟨l13, u13⟩, ⟨l14, u14⟩, ⟨l15, u15⟩, -⟩ := b_
  obtain ⟨f0, -⟩ := f_
  obtain ⟨e0, w_⟩ := d_
  subst w_
  have g := rxcLME_5_0 hP hin I0 hinv l8 u8 l9 u9 l10 u10 l11 u11 l12 u12 l13 u13 l14 u14 l15 u15 f0 e0
  refine ⟨bx_narP_ok (l := []) g.1, bx_nfP_ok h0_ (fvs := []) (by decide +kernel) g.2.1, ?_, ?_⟩
  · show rxILME_2 S0 ws S' (bx_val [(0, 0), (0, 0), (0, 0), (0, 0), (0, 0), (0, 0), (0, 0), (0, 0), (8, 0), (9, 0), (10, 0), (15, 0), (11, 1)] r' 8) (bx_val [(0, 0), (0, 0), (0, 0), (0, 0), (0, 0), (0, 0), (0, 0), (0, 0), (8, 0), (9, 0), (10, 0), (15, 0), (11, 1)] r' 9) (bx_val [(0, 0), (0, 0), (0, 0), (0, 0), (0, 0), (0, 0), (0, 0), (0, 0), (8, 0), (9, 0), (10, 0), (15, 0), (11, 1)] r' 10) (bx_val [(0, 0), (0, 0), (0, 0), (0, 0), (0, 0), (0, 0), (0, 0), (0, 0), (8, 0), (9, 0), (10, 0), (15, 0), (11, 1)] r' 11) (bx_val [(0, 0), (0, 0), (0, 0), (0, 0), (0, 0), (0, 0), (0, 0), (0, 0), (8, 0), (9, 0), (10, 0), (15, 0), (11, 1)] r' 12)
    rw [bx_val_x (n := 8) (e := (8, 0)) h0_ rfl, bx_val_x (n := 9) (e := (9, 0)) h0_ rfl, bx_val_x (n := 10) (e := (10, 0)) h0_ rfl, bx_val_x (n := 11) (e := (15, 0)) h0_ rfl, bx_val_x (n := 12) (e := (11, 1)) h0_ rfl]
    exact g.2.2.1
  · show rxmLME_2 S0 ws S' (bx_val [(0, 0), (0, 0), (0, 0), (0, 0), (0, 0), (0, 0), (0, 0), (0, 0), (8, 0), (9, 0), (10, 0), (15, 0), (11, 1)] r' 8) (bx_val [(0, 0), (0, 0), (0, 0), (0, 0), (0, 0), (0, 0), (0, 0), (0, 0), (8, 0), (9, 0), (10, 0), (15, 0), (11, 1)] r' 9) (bx_val [(0, 0), (0, 0), (0, 0), (0, 0), (0, 0), (0, 0), (0, 0), (0, 0), (8, 0), (9, 0), (10, 0), (15, 0), (11, 1)] r' 10) (bx_val [(0, 0), (0, 0), (0, 0), (0, 0), (0, 0), (0, 0), (0, 0), (0, 0), (8, 0), (9, 0), (10, 0), (15, 0), (11, 1)] r' 11) (bx_val [(0, 0), (0, 0), (0, 0), (0, 0), (0, 0), (0, 0), (0, 0), (0, 0), (8, 0), (9, 0), (10, 0), (15, 0), (11, 1)] r' 12) < rxmLME_5 S0 ws S' (r 8) (r 9) (r 10) (r 11) (r 12) (r 13)
    rw [bx_val_x (n := 8) (e := (8, 0)) h0_ rfl, bx_val_x (n := 9) (e := (9, 0)) h0_ rfl, bx_val_x (n := 10) (e := (10, 0)) h0_ rfl, bx_val_x (n := 11) (e := (15, 0)) h0_ rfl, bx_val_x (n := 12) (e := (11, 1)) h0_ rfl, ← hr_ 8 (by decide), ← hr_ 9 (by decide), ← hr_ 10 (by decide), ← hr_ 11 (by decide), ← hr_ 12 (by decide), ← hr_ 13 (by decide)]
    exact g.2.2.2
theorem rxcLME_6_0 {S0 : Nat → Int → Int} {ws : List Int} {S : Nat → Int → Int} {m row1 cue st s x13 x14 x15 x16 : Int} (hP : rxPLME S0 ws) (hin : bx_same rxL (bx_mdl rxCLME.2.2.1) S0 S) (I0 : bx_Inv rxL S) (hinv : rxILME_6 S0 ws S m row1 cue st s) (l8 : 1 ≤ m) (u8 : m ≤ 3) (l9 : 0 ≤ row1) (u9 : row1 ≤ 3) (l10 : 0 ≤ cue) (u10 : cue ≤ 5) (l11 : 0 ≤ st) (u11 : st ≤ 2) (l12 : 0 ≤ s) (u12 : s ≤ 2) (l13 : 0 ≤ x13) (u13 : x13 ≤ 12) (l14 : 0 ≤ x14) (u14 : x14 ≤ 17) (l15 : (-1) ≤ x15) (u15 : x15 ≤ 9) (l16 : 0 ≤ x16) (u16 : x16 ≤ 1023) (f0 : st ≠ s) (f1 : st ≠ (-1)) (f2 : x14 = x13 + cue) (f3 : x13 = 6 * (s)) (f4 : s < m) (e1 : S 514 x14 = x15) (e0 : S 480 70 = x16) : (True) ∧ (True) ∧ rxILME_10 S0 ws S m row1 cue st s x15 x16 0 ∧ rxmLME_10 S0 ws S m row1 cue st s x15 x16 0 < rxmLME_6 S0 ws S m row1 cue st s := by
  obtain ⟨hu, hw, hs, hz, hb⟩ := hinv
  have e : ldg m cue st (S0 514) s = 0 := if_neg (by omega)
  exact ⟨trivial, trivial, ⟨by rw [e]; rfl, hu, hw, by omega, hz, e0.symm, hb⟩, by unfold rxmLME_6 rxmLME_10; omega⟩
theorem rxgLME_6_0 {X : (Nat → Int → Int) → Prop} {S0 : Nat → Int → Int} {ws : List Int} (hP : rxPLME S0 ws) : bx_obC rxL X S0 rxCLME.2.2.1 (rxILME S0 ws) (rxmLME S0 ws) 6 rxzLME_6 rxoLME_6_0 := by
  intro S S' r r' hinv hX hin hsm_ hseg
  obtain ⟨I0, I1, h0_, hr_, b_, f_, d_⟩ := bx_cl (evs := [(0, (0, 480), (0, 70), .inr (0, (16, 0))), (0, (0, 514), (14, 0), .inr (0, (15, 0)))]) (fvs := [(3, (11, 0), (12, 0), (0, 0)), (3, (11, 0), (0, (-1)), (0, 0)), (5, (14, 0), (13, 0), (10, 0)), (4, (13, 0), (12, 0), (0, 6)), (0, (12, 0), (8, 0), (0, 0))]) hseg (by decide +kernel) (by decide +kernel)
  have hinv : rxILME_6 S0 ws S (r 8) (r 9) (r 10) (r 11) (r 12) := hinv
  rw [← hr_ 8 (by decide), ← hr_ 9 (by decide), ← hr_ 10 (by decide), ← hr_ 11 (by decide), ← hr_ 12 (by decide)] at hinv
  obtain ⟨⟨l8, u8⟩, ⟨l9, u9⟩, ⟨l10, u10⟩, ⟨l11, u11⟩, ⟨l12, u12⟩, ⟨l13, u13⟩, ⟨l14, u14⟩, ⟨l15, u15⟩, ⟨l16, u16⟩, -⟩ := b_
  obtain ⟨f0, f1, f2, f3, f4, -⟩ := f_
  obtain ⟨e0, ⟨e1, w_⟩⟩ := d_
  subst w_
  have g := rxcLME_6_0 hP hin I0 hinv l8 u8 l9 u9 l10 u10 l11 u11 l12 u12 l13 u13 l14 u14 l15 u15 l16 u16 f0 f1 f2 f3 f4 e1 e0
  refine ⟨bx_narP_ok (l := []) g.1, bx_nfP_ok h0_ (fvs := []) (by decide +kernel) g.2.1, ?_, ?_⟩
  · show rxILME_10 S0 ws S' (bx_val [(0, 0), (0, 0), (0, 0), (0, 0), (0, 0), (0, 0), (0, 0), (0, 0), (8, 0), (9, 0), (10, 0), (11, 0), (12, 0), (15, 0), (16, 0), (0, 0)] r' 8) (bx_val [(0, 0), (0, 0), (0, 0), (0, 0), (0, 0), (0, 0), (0, 0), (0, 0), (8, 0), (9, 0), (10, 0), (11, 0), (12, 0), (15, 0), (16, 0), (0, 0)] r' 9) (bx_val [(0, 0), (0, 0), (0, 0), (0, 0), (0, 0), (0, 0), (0, 0), (0, 0), (8, 0), (9, 0), (10, 0), (11, 0), (12, 0), (15, 0), (16, 0), (0, 0)] r' 10) (bx_val [(0, 0), (0, 0), (0, 0), (0, 0), (0, 0), (0, 0), (0, 0), (0, 0), (8, 0), (9, 0), (10, 0), (11, 0), (12, 0), (15, 0), (16, 0), (0, 0)] r' 11) (bx_val [(0, 0), (0, 0), (0, 0), (0, 0), (0, 0), (0, 0), (0, 0), (0, 0), (8, 0), (9, 0), (10, 0), (11, 0), (12, 0), (15, 0), (16, 0), (0, 0)] r' 12) (bx_val [(0, 0), (0, 0), (0, 0), (0, 0), (0, 0), (0, 0), (0, 0), (0, 0), (8, 0), (9, 0), (10, 0), (11, 0), (12, 0), (15, 0), (16, 0), (0, 0)] r' 13) (bx_val [(0, 0), (0, 0), (0, 0), (0, 0), (0, 0), (0, 0), (0, 0), (0, 0), (8, 0), (9, 0), (10, 0), (11, 0), (12, 0), (15, 0), (16, 0), (0, 0)] r' 14) (bx_val [(0, 0), (0, 0), (0, 0), (0, 0), (0, 0), (0, 0), (0, 0), (0, 0), (8, 0), (9, 0), (10, 0), (11, 0), (12, 0), (15, 0), (16, 0), (0, 0)] r' 15)
    rw [bx_val_x (n := 8) (e := (8, 0)) h0_ rfl, bx_val_x (n := 9) (e := (9, 0)) h0_ rfl, bx_val_x (n := 10) (e := (10, 0)) h0_ rfl, bx_val_x (n := 11) (e := (11, 0)) h0_ rfl, bx_val_x (n := 12) (e := (12, 0)) h0_ rfl, bx_val_x (n := 13) (e := (15, 0)) h0_ rfl, bx_val_x (n := 14) (e := (16, 0)) h0_ rfl, bx_val_x (n := 15) (e := (0, 0)) h0_ rfl]
    exact g.2.2.1
  · show rxmLME_10 S0 ws S' (bx_val [(0, 0), (0, 0), (0, 0), (0, 0), (0, 0), (0, 0), (0, 0), (0, 0), (8, 0), (9, 0), (10, 0), (11, 0), (12, 0), (15, 0), (16, 0), (0, 0)] r' 8) (bx_val [(0, 0), (0, 0), (0, 0), (0, 0), (0, 0), (0, 0), (0, 0), (0, 0), (8, 0), (9, 0), (10, 0), (11, 0), (12, 0), (15, 0), (16, 0), (0, 0)] r' 9) (bx_val [(0, 0), (0, 0), (0, 0), (0, 0), (0, 0), (0, 0), (0, 0), (0, 0), (8, 0), (9, 0), (10, 0), (11, 0), (12, 0), (15, 0), (16, 0), (0, 0)] r' 10) (bx_val [(0, 0), (0, 0), (0, 0), (0, 0), (0, 0), (0, 0), (0, 0), (0, 0), (8, 0), (9, 0), (10, 0), (11, 0), (12, 0), (15, 0), (16, 0), (0, 0)] r' 11) (bx_val [(0, 0), (0, 0), (0, 0), (0, 0), (0, 0), (0, 0), (0, 0), (0, 0), (8, 0), (9, 0), (10, 0), (11, 0), (12, 0), (15, 0), (16, 0), (0, 0)] r' 12) (bx_val [(0, 0), (0, 0), (0, 0), (0, 0), (0, 0), (0, 0), (0, 0), (0, 0), (8, 0), (9, 0), (10, 0), (11, 0), (12, 0), (15, 0), (16, 0), (0, 0)] r' 13) (bx_val [(0, 0), (0, 0), (0, 0), (0, 0), (0, 0), (0, 0), (0, 0), (0, 0), (8, 0), (9, 0), (10, 0), (11, 0), (12, 0), (15, 0), (16, 0), (0, 0)] r' 14) (bx_val [(0, 0), (0, 0), (0, 0), (0, 0), (0, 0), (0, 0), (0, 0), (0, 0), (8, 0), (9, 0), (10, 0), (11, 0), (12, 0), (15, 0), (16, 0), (0, 0)] r' 15) < rxmLME_6 S0 ws S' (r 8) (r 9) (r 10) (r 11) (r 12)
    rw [bx_val_x (n := 8) (e := (8, 0)) h0_ rfl, bx_val_x (n := 9) (e := (9, 0)) h0_ rfl, bx_val_x (n := 10) (e := (10, 0)) h0_ rfl, bx_val_x (n := 11) (e := (11, 0)) h0_ rfl, bx_val_x (n := 12) (e := (12, 0)) h0_ rfl, bx_val_x (n := 13) (e := (15, 0)) h0_ rfl, bx_val_x (n := 14) (e := (16, 0)) h0_ rfl, bx_val_x (n := 15) (e := (0, 0)) h0_ rfl, ← hr_ 8 (by decide), ← hr_ 9 (by decide), ← hr_ 10 (by decide), ← hr_ 11 (by decide), ← hr_ 12 (by decide)]
    exact g.2.2.2
theorem rxcLME_6_1 {S0 : Nat → Int → Int} {ws : List Int} {S : Nat → Int → Int} {m row1 cue st s x13 x14 x15 x16 : Int} (hP : rxPLME S0 ws) (hin : bx_same rxL (bx_mdl rxCLME.2.2.1) S0 S) (I0 : bx_Inv rxL S) (hinv : rxILME_6 S0 ws S m row1 cue st s) (l8 : 1 ≤ m) (u8 : m ≤ 3) (l9 : 0 ≤ row1) (u9 : row1 ≤ 3) (l10 : 0 ≤ cue) (u10 : cue ≤ 5) (l11 : 0 ≤ st) (u11 : st ≤ 2) (l12 : 0 ≤ s) (u12 : s ≤ 2) (l13 : 0 ≤ x13) (u13 : x13 ≤ 12) (l14 : 0 ≤ x14) (u14 : x14 ≤ 17) (l15 : (-1) ≤ x15) (u15 : x15 ≤ (-1)) (l16 : 0 ≤ x16) (u16 : x16 ≤ 1023) (f0 : st = s) (f1 : st ≠ (-1)) (f2 : x14 = x13 + cue) (f3 : x13 = 6 * (s)) (f4 : s < m) (e1 : S 514 x14 = x15) (e0 : S 480 70 = x16) : (True) ∧ (True) ∧ rxILME_10 S0 ws S m row1 cue st s x15 x16 1023 ∧ rxmLME_10 S0 ws S m row1 cue st s x15 x16 1023 < rxmLME_6 S0 ws S m row1 cue st s := by
  obtain ⟨hu, hw, hs, hz, hb⟩ := hinv
  rw [ldU69_R hu 514 (by omega)] at e1
  have e : ldg m cue st (S0 514) s = 1023 := by
    unfold ldg
    rw [if_pos ⟨by omega, by omega⟩, show 6 * s + cue = x14 by omega, e1, show x15 = -1 by omega]
    rfl
  exact ⟨trivial, trivial, ⟨by rw [e]; rfl, hu, hw, by omega, hz, e0.symm, hb⟩, by unfold rxmLME_6 rxmLME_10; omega⟩
theorem rxgLME_6_1 {X : (Nat → Int → Int) → Prop} {S0 : Nat → Int → Int} {ws : List Int} (hP : rxPLME S0 ws) : bx_obC rxL X S0 rxCLME.2.2.1 (rxILME S0 ws) (rxmLME S0 ws) 6 rxzLME_6 rxoLME_6_1 := by
  intro S S' r r' hinv hX hin hsm_ hseg
  obtain ⟨I0, I1, h0_, hr_, b_, f_, d_⟩ := bx_cl (evs := [(0, (0, 480), (0, 70), .inr (0, (16, 0))), (0, (0, 514), (14, 0), .inr (0, (15, 0)))]) (fvs := [(2, (11, 0), (12, 0), (0, 0)), (3, (11, 0), (0, (-1)), (0, 0)), (5, (14, 0), (13, 0), (10, 0)), (4, (13, 0), (12, 0), (0, 6)), (0, (12, 0), (8, 0), (0, 0))]) hseg (by decide +kernel) (by decide +kernel)
  have hinv : rxILME_6 S0 ws S (r 8) (r 9) (r 10) (r 11) (r 12) := hinv
  rw [← hr_ 8 (by decide), ← hr_ 9 (by decide), ← hr_ 10 (by decide), ← hr_ 11 (by decide), ← hr_ 12 (by decide)] at hinv
  obtain ⟨⟨l8, u8⟩, ⟨l9, u9⟩, ⟨l10, u10⟩, ⟨l11, u11⟩, ⟨l12, u12⟩, ⟨l13, u13⟩, ⟨l14, u14⟩, ⟨l15, u15⟩, ⟨l16, u16⟩, -⟩ := b_
  obtain ⟨f0, f1, f2, f3, f4, -⟩ := f_
  obtain ⟨e0, ⟨e1, w_⟩⟩ := d_
  subst w_
  have g := rxcLME_6_1 hP hin I0 hinv l8 u8 l9 u9 l10 u10 l11 u11 l12 u12 l13 u13 l14 u14 l15 u15 l16 u16 f0 f1 f2 f3 f4 e1 e0
  refine ⟨bx_narP_ok (l := []) g.1, bx_nfP_ok h0_ (fvs := []) (by decide +kernel) g.2.1, ?_, ?_⟩
  · show rxILME_10 S0 ws S' (bx_val [(0, 0), (0, 0), (0, 0), (0, 0), (0, 0), (0, 0), (0, 0), (0, 0), (8, 0), (9, 0), (10, 0), (11, 0), (12, 0), (15, 0), (16, 0), (0, 1023)] r' 8) (bx_val [(0, 0), (0, 0), (0, 0), (0, 0), (0, 0), (0, 0), (0, 0), (0, 0), (8, 0), (9, 0), (10, 0), (11, 0), (12, 0), (15, 0), (16, 0), (0, 1023)] r' 9) (bx_val [(0, 0), (0, 0), (0, 0), (0, 0), (0, 0), (0, 0), (0, 0), (0, 0), (8, 0), (9, 0), (10, 0), (11, 0), (12, 0), (15, 0), (16, 0), (0, 1023)] r' 10) (bx_val [(0, 0), (0, 0), (0, 0), (0, 0), (0, 0), (0, 0), (0, 0), (0, 0), (8, 0), (9, 0), (10, 0), (11, 0), (12, 0), (15, 0), (16, 0), (0, 1023)] r' 11) (bx_val [(0, 0), (0, 0), (0, 0), (0, 0), (0, 0), (0, 0), (0, 0), (0, 0), (8, 0), (9, 0), (10, 0), (11, 0), (12, 0), (15, 0), (16, 0), (0, 1023)] r' 12) (bx_val [(0, 0), (0, 0), (0, 0), (0, 0), (0, 0), (0, 0), (0, 0), (0, 0), (8, 0), (9, 0), (10, 0), (11, 0), (12, 0), (15, 0), (16, 0), (0, 1023)] r' 13) (bx_val [(0, 0), (0, 0), (0, 0), (0, 0), (0, 0), (0, 0), (0, 0), (0, 0), (8, 0), (9, 0), (10, 0), (11, 0), (12, 0), (15, 0), (16, 0), (0, 1023)] r' 14) (bx_val [(0, 0), (0, 0), (0, 0), (0, 0), (0, 0), (0, 0), (0, 0), (0, 0), (8, 0), (9, 0), (10, 0), (11, 0), (12, 0), (15, 0), (16, 0), (0, 1023)] r' 15)
    rw [bx_val_x (n := 8) (e := (8, 0)) h0_ rfl, bx_val_x (n := 9) (e := (9, 0)) h0_ rfl, bx_val_x (n := 10) (e := (10, 0)) h0_ rfl, bx_val_x (n := 11) (e := (11, 0)) h0_ rfl, bx_val_x (n := 12) (e := (12, 0)) h0_ rfl, bx_val_x (n := 13) (e := (15, 0)) h0_ rfl, bx_val_x (n := 14) (e := (16, 0)) h0_ rfl, bx_val_x (n := 15) (e := (0, 1023)) h0_ rfl]
    exact g.2.2.1
  · show rxmLME_10 S0 ws S' (bx_val [(0, 0), (0, 0), (0, 0), (0, 0), (0, 0), (0, 0), (0, 0), (0, 0), (8, 0), (9, 0), (10, 0), (11, 0), (12, 0), (15, 0), (16, 0), (0, 1023)] r' 8) (bx_val [(0, 0), (0, 0), (0, 0), (0, 0), (0, 0), (0, 0), (0, 0), (0, 0), (8, 0), (9, 0), (10, 0), (11, 0), (12, 0), (15, 0), (16, 0), (0, 1023)] r' 9) (bx_val [(0, 0), (0, 0), (0, 0), (0, 0), (0, 0), (0, 0), (0, 0), (0, 0), (8, 0), (9, 0), (10, 0), (11, 0), (12, 0), (15, 0), (16, 0), (0, 1023)] r' 10) (bx_val [(0, 0), (0, 0), (0, 0), (0, 0), (0, 0), (0, 0), (0, 0), (0, 0), (8, 0), (9, 0), (10, 0), (11, 0), (12, 0), (15, 0), (16, 0), (0, 1023)] r' 11) (bx_val [(0, 0), (0, 0), (0, 0), (0, 0), (0, 0), (0, 0), (0, 0), (0, 0), (8, 0), (9, 0), (10, 0), (11, 0), (12, 0), (15, 0), (16, 0), (0, 1023)] r' 12) (bx_val [(0, 0), (0, 0), (0, 0), (0, 0), (0, 0), (0, 0), (0, 0), (0, 0), (8, 0), (9, 0), (10, 0), (11, 0), (12, 0), (15, 0), (16, 0), (0, 1023)] r' 13) (bx_val [(0, 0), (0, 0), (0, 0), (0, 0), (0, 0), (0, 0), (0, 0), (0, 0), (8, 0), (9, 0), (10, 0), (11, 0), (12, 0), (15, 0), (16, 0), (0, 1023)] r' 14) (bx_val [(0, 0), (0, 0), (0, 0), (0, 0), (0, 0), (0, 0), (0, 0), (0, 0), (8, 0), (9, 0), (10, 0), (11, 0), (12, 0), (15, 0), (16, 0), (0, 1023)] r' 15) < rxmLME_6 S0 ws S' (r 8) (r 9) (r 10) (r 11) (r 12)
    rw [bx_val_x (n := 8) (e := (8, 0)) h0_ rfl, bx_val_x (n := 9) (e := (9, 0)) h0_ rfl, bx_val_x (n := 10) (e := (10, 0)) h0_ rfl, bx_val_x (n := 11) (e := (11, 0)) h0_ rfl, bx_val_x (n := 12) (e := (12, 0)) h0_ rfl, bx_val_x (n := 13) (e := (15, 0)) h0_ rfl, bx_val_x (n := 14) (e := (16, 0)) h0_ rfl, bx_val_x (n := 15) (e := (0, 1023)) h0_ rfl, ← hr_ 8 (by decide), ← hr_ 9 (by decide), ← hr_ 10 (by decide), ← hr_ 11 (by decide), ← hr_ 12 (by decide)]
    exact g.2.2.2
theorem rxcLME_6_2 {S0 : Nat → Int → Int} {ws : List Int} {S : Nat → Int → Int} {m row1 cue st s x13 x14 x15 x16 : Int} (hP : rxPLME S0 ws) (hin : bx_same rxL (bx_mdl rxCLME.2.2.1) S0 S) (I0 : bx_Inv rxL S) (hinv : rxILME_6 S0 ws S m row1 cue st s) (l8 : 1 ≤ m) (u8 : m ≤ 3) (l9 : 0 ≤ row1) (u9 : row1 ≤ 3) (l10 : 0 ≤ cue) (u10 : cue ≤ 5) (l11 : 0 ≤ st) (u11 : st ≤ 2) (l12 : 0 ≤ s) (u12 : s ≤ 2) (l13 : 0 ≤ x13) (u13 : x13 ≤ 12) (l14 : 0 ≤ x14) (u14 : x14 ≤ 17) (l15 : 0 ≤ x15) (u15 : x15 ≤ 9) (l16 : 0 ≤ x16) (u16 : x16 ≤ 1023) (f0 : x15 ≠ (-1)) (f1 : st = s) (f2 : st ≠ (-1)) (f3 : x14 = x13 + cue) (f4 : x13 = 6 * (s)) (f5 : s < m) (e1 : S 514 x14 = x15) (e0 : S 480 70 = x16) : (True) ∧ (True) ∧ rxILME_7 S0 ws S m row1 cue st s x15 x16 x15 ∧ rxmLME_7 S0 ws S m row1 cue st s x15 x16 x15 < rxmLME_6 S0 ws S m row1 cue st s := by
  obtain ⟨hu, hw, hs, hz, hb⟩ := hinv
  rw [ldU69_R hu 514 (by omega)] at e1
  exact ⟨by first | trivial | exact ⟨by omega, trivial⟩, trivial, ⟨rfl, by rw [show 6 * s + cue = x14 by omega]; exact e1.symm, by omega, hu, hw, by omega, hz, e0.symm, hb⟩, by unfold rxmLME_6 rxmLME_7; omega⟩
theorem rxgLME_6_2 {X : (Nat → Int → Int) → Prop} {S0 : Nat → Int → Int} {ws : List Int} (hP : rxPLME S0 ws) : bx_obC rxL X S0 rxCLME.2.2.1 (rxILME S0 ws) (rxmLME S0 ws) 6 rxzLME_6 rxoLME_6_2 := by
  intro S S' r r' hinv hX hin hsm_ hseg
  obtain ⟨I0, I1, h0_, hr_, b_, f_, d_⟩ := bx_cl (evs := [(0, (0, 480), (0, 70), .inr (0, (16, 0))), (0, (0, 514), (14, 0), .inr (0, (15, 0)))]) (fvs := [(3, (15, 0), (0, (-1)), (0, 0)), (2, (11, 0), (12, 0), (0, 0)), (3, (11, 0), (0, (-1)), (0, 0)), (5, (14, 0), (13, 0), (10, 0)), (4, (13, 0), (12, 0), (0, 6)), (0, (12, 0), (8, 0), (0, 0))]) hseg (by decide +kernel) (by decide +kernel)
  have hinv : rxILME_6 S0 ws S (r 8) (r 9) (r 10) (r 11) (r 12) := hinv
  rw [← hr_ 8 (by decide), ← hr_ 9 (by decide), ← hr_ 10 (by decide), ← hr_ 11 (by decide), ← hr_ 12 (by decide)] at hinv
  obtain ⟨⟨l8, u8⟩, ⟨l9, u9⟩, ⟨l10, u10⟩, ⟨l11, u11⟩, ⟨l12, u12⟩, ⟨l13, u13⟩, ⟨l14, u14⟩, ⟨l15, u15⟩, ⟨l16, u16⟩, -⟩ := b_
  obtain ⟨f0, f1, f2, f3, f4, f5, -⟩ := f_
  obtain ⟨e0, ⟨e1, w_⟩⟩ := d_
  subst w_
  have g := rxcLME_6_2 hP hin I0 hinv l8 u8 l9 u9 l10 u10 l11 u11 l12 u12 l13 u13 l14 u14 l15 u15 l16 u16 f0 f1 f2 f3 f4 f5 e1 e0
  refine ⟨bx_narP_ok (l := []) g.1, bx_nfP_ok h0_ (fvs := []) (by decide +kernel) g.2.1, ?_, ?_⟩
  · show rxILME_7 S0 ws S' (bx_val [(0, 0), (0, 0), (0, 0), (0, 0), (0, 0), (0, 0), (0, 0), (0, 0), (8, 0), (9, 0), (10, 0), (11, 0), (12, 0), (15, 0), (16, 0), (15, 0)] r' 8) (bx_val [(0, 0), (0, 0), (0, 0), (0, 0), (0, 0), (0, 0), (0, 0), (0, 0), (8, 0), (9, 0), (10, 0), (11, 0), (12, 0), (15, 0), (16, 0), (15, 0)] r' 9) (bx_val [(0, 0), (0, 0), (0, 0), (0, 0), (0, 0), (0, 0), (0, 0), (0, 0), (8, 0), (9, 0), (10, 0), (11, 0), (12, 0), (15, 0), (16, 0), (15, 0)] r' 10) (bx_val [(0, 0), (0, 0), (0, 0), (0, 0), (0, 0), (0, 0), (0, 0), (0, 0), (8, 0), (9, 0), (10, 0), (11, 0), (12, 0), (15, 0), (16, 0), (15, 0)] r' 11) (bx_val [(0, 0), (0, 0), (0, 0), (0, 0), (0, 0), (0, 0), (0, 0), (0, 0), (8, 0), (9, 0), (10, 0), (11, 0), (12, 0), (15, 0), (16, 0), (15, 0)] r' 12) (bx_val [(0, 0), (0, 0), (0, 0), (0, 0), (0, 0), (0, 0), (0, 0), (0, 0), (8, 0), (9, 0), (10, 0), (11, 0), (12, 0), (15, 0), (16, 0), (15, 0)] r' 13) (bx_val [(0, 0), (0, 0), (0, 0), (0, 0), (0, 0), (0, 0), (0, 0), (0, 0), (8, 0), (9, 0), (10, 0), (11, 0), (12, 0), (15, 0), (16, 0), (15, 0)] r' 14) (bx_val [(0, 0), (0, 0), (0, 0), (0, 0), (0, 0), (0, 0), (0, 0), (0, 0), (8, 0), (9, 0), (10, 0), (11, 0), (12, 0), (15, 0), (16, 0), (15, 0)] r' 15)
    rw [bx_val_x (n := 8) (e := (8, 0)) h0_ rfl, bx_val_x (n := 9) (e := (9, 0)) h0_ rfl, bx_val_x (n := 10) (e := (10, 0)) h0_ rfl, bx_val_x (n := 11) (e := (11, 0)) h0_ rfl, bx_val_x (n := 12) (e := (12, 0)) h0_ rfl, bx_val_x (n := 13) (e := (15, 0)) h0_ rfl, bx_val_x (n := 14) (e := (16, 0)) h0_ rfl, bx_val_x (n := 15) (e := (15, 0)) h0_ rfl]
    exact g.2.2.1
  · show rxmLME_7 S0 ws S' (bx_val [(0, 0), (0, 0), (0, 0), (0, 0), (0, 0), (0, 0), (0, 0), (0, 0), (8, 0), (9, 0), (10, 0), (11, 0), (12, 0), (15, 0), (16, 0), (15, 0)] r' 8) (bx_val [(0, 0), (0, 0), (0, 0), (0, 0), (0, 0), (0, 0), (0, 0), (0, 0), (8, 0), (9, 0), (10, 0), (11, 0), (12, 0), (15, 0), (16, 0), (15, 0)] r' 9) (bx_val [(0, 0), (0, 0), (0, 0), (0, 0), (0, 0), (0, 0), (0, 0), (0, 0), (8, 0), (9, 0), (10, 0), (11, 0), (12, 0), (15, 0), (16, 0), (15, 0)] r' 10) (bx_val [(0, 0), (0, 0), (0, 0), (0, 0), (0, 0), (0, 0), (0, 0), (0, 0), (8, 0), (9, 0), (10, 0), (11, 0), (12, 0), (15, 0), (16, 0), (15, 0)] r' 11) (bx_val [(0, 0), (0, 0), (0, 0), (0, 0), (0, 0), (0, 0), (0, 0), (0, 0), (8, 0), (9, 0), (10, 0), (11, 0), (12, 0), (15, 0), (16, 0), (15, 0)] r' 12) (bx_val [(0, 0), (0, 0), (0, 0), (0, 0), (0, 0), (0, 0), (0, 0), (0, 0), (8, 0), (9, 0), (10, 0), (11, 0), (12, 0), (15, 0), (16, 0), (15, 0)] r' 13) (bx_val [(0, 0), (0, 0), (0, 0), (0, 0), (0, 0), (0, 0), (0, 0), (0, 0), (8, 0), (9, 0), (10, 0), (11, 0), (12, 0), (15, 0), (16, 0), (15, 0)] r' 14) (bx_val [(0, 0), (0, 0), (0, 0), (0, 0), (0, 0), (0, 0), (0, 0), (0, 0), (8, 0), (9, 0), (10, 0), (11, 0), (12, 0), (15, 0), (16, 0), (15, 0)] r' 15) < rxmLME_6 S0 ws S' (r 8) (r 9) (r 10) (r 11) (r 12)
    rw [bx_val_x (n := 8) (e := (8, 0)) h0_ rfl, bx_val_x (n := 9) (e := (9, 0)) h0_ rfl, bx_val_x (n := 10) (e := (10, 0)) h0_ rfl, bx_val_x (n := 11) (e := (11, 0)) h0_ rfl, bx_val_x (n := 12) (e := (12, 0)) h0_ rfl, bx_val_x (n := 13) (e := (15, 0)) h0_ rfl, bx_val_x (n := 14) (e := (16, 0)) h0_ rfl, bx_val_x (n := 15) (e := (15, 0)) h0_ rfl, ← hr_ 8 (by decide), ← hr_ 9 (by decide), ← hr_ 10 (by decide), ← hr_ 11 (by decide), ← hr_ 12 (by decide)]
    exact g.2.2.2
theorem rxcLME_6_3 {S0 : Nat → Int → Int} {ws : List Int} {S : Nat → Int → Int} {m row1 cue st s x13 x14 x15 x16 : Int} (hP : rxPLME S0 ws) (hin : bx_same rxL (bx_mdl rxCLME.2.2.1) S0 S) (I0 : bx_Inv rxL S) (hinv : rxILME_6 S0 ws S m row1 cue st s) (l8 : 1 ≤ m) (u8 : m ≤ 3) (l9 : 0 ≤ row1) (u9 : row1 ≤ 3) (l10 : 0 ≤ cue) (u10 : cue ≤ 5) (l11 : (-1) ≤ st) (u11 : st ≤ (-1)) (l12 : 0 ≤ s) (u12 : s ≤ 2) (l13 : 0 ≤ x13) (u13 : x13 ≤ 12) (l14 : 0 ≤ x14) (u14 : x14 ≤ 17) (l15 : (-1) ≤ x15) (u15 : x15 ≤ (-1)) (l16 : 0 ≤ x16) (u16 : x16 ≤ 1023) (f0 : x14 = x13 + cue) (f1 : x13 = 6 * (s)) (f2 : s < m) (e1 : S 514 x14 = x15) (e0 : S 480 70 = x16) : (True) ∧ (True) ∧ rxILME_10 S0 ws S m row1 cue st s x15 x16 1023 ∧ rxmLME_10 S0 ws S m row1 cue st s x15 x16 1023 < rxmLME_6 S0 ws S m row1 cue st s := by
  obtain ⟨hu, hw, hs, hz, hb⟩ := hinv
  rw [ldU69_R hu 514 (by omega)] at e1
  have e : ldg m cue st (S0 514) s = 1023 := by
    unfold ldg
    rw [if_pos ⟨by omega, by omega⟩, show 6 * s + cue = x14 by omega, e1, show x15 = -1 by omega]
    rfl
  exact ⟨trivial, trivial, ⟨by rw [e]; rfl, hu, hw, by omega, hz, e0.symm, hb⟩, by unfold rxmLME_6 rxmLME_10; omega⟩
theorem rxgLME_6_3 {X : (Nat → Int → Int) → Prop} {S0 : Nat → Int → Int} {ws : List Int} (hP : rxPLME S0 ws) : bx_obC rxL X S0 rxCLME.2.2.1 (rxILME S0 ws) (rxmLME S0 ws) 6 rxzLME_6 rxoLME_6_3 := by
  intro S S' r r' hinv hX hin hsm_ hseg
  obtain ⟨I0, I1, h0_, hr_, b_, f_, d_⟩ := bx_cl (evs := [(0, (0, 480), (0, 70), .inr (0, (16, 0))), (0, (0, 514), (14, 0), .inr (0, (15, 0)))]) (fvs := [(5, (14, 0), (13, 0), (10, 0)), (4, (13, 0), (12, 0), (0, 6)), (0, (12, 0), (8, 0), (0, 0))]) hseg (by decide +kernel) (by decide +kernel)
  have hinv : rxILME_6 S0 ws S (r 8) (r 9) (r 10) (r 11) (r 12) := hinv
  rw [← hr_ 8 (by decide), ← hr_ 9 (by decide), ← hr_ 10 (by decide), ← hr_ 11 (by decide), ← hr_ 12 (by decide)] at hinv
  obtain ⟨⟨l8, u8⟩, ⟨l9, u9⟩, ⟨l10, u10⟩, ⟨l11, u11⟩, ⟨l12, u12⟩, ⟨l13, u13⟩, ⟨l14, u14⟩, ⟨l15, u15⟩, ⟨l16, u16⟩, -⟩ := b_
  obtain ⟨f0, f1, f2, -⟩ := f_
  obtain ⟨e0, ⟨e1, w_⟩⟩ := d_
  subst w_
  have g := rxcLME_6_3 hP hin I0 hinv l8 u8 l9 u9 l10 u10 l11 u11 l12 u12 l13 u13 l14 u14 l15 u15 l16 u16 f0 f1 f2 e1 e0
  refine ⟨bx_narP_ok (l := []) g.1, bx_nfP_ok h0_ (fvs := []) (by decide +kernel) g.2.1, ?_, ?_⟩
  · show rxILME_10 S0 ws S' (bx_val [(0, 0), (0, 0), (0, 0), (0, 0), (0, 0), (0, 0), (0, 0), (0, 0), (8, 0), (9, 0), (10, 0), (11, 0), (12, 0), (15, 0), (16, 0), (0, 1023)] r' 8) (bx_val [(0, 0), (0, 0), (0, 0), (0, 0), (0, 0), (0, 0), (0, 0), (0, 0), (8, 0), (9, 0), (10, 0), (11, 0), (12, 0), (15, 0), (16, 0), (0, 1023)] r' 9) (bx_val [(0, 0), (0, 0), (0, 0), (0, 0), (0, 0), (0, 0), (0, 0), (0, 0), (8, 0), (9, 0), (10, 0), (11, 0), (12, 0), (15, 0), (16, 0), (0, 1023)] r' 10) (bx_val [(0, 0), (0, 0), (0, 0), (0, 0), (0, 0), (0, 0), (0, 0), (0, 0), (8, 0), (9, 0), (10, 0), (11, 0), (12, 0), (15, 0), (16, 0), (0, 1023)] r' 11) (bx_val [(0, 0), (0, 0), (0, 0), (0, 0), (0, 0), (0, 0), (0, 0), (0, 0), (8, 0), (9, 0), (10, 0), (11, 0), (12, 0), (15, 0), (16, 0), (0, 1023)] r' 12) (bx_val [(0, 0), (0, 0), (0, 0), (0, 0), (0, 0), (0, 0), (0, 0), (0, 0), (8, 0), (9, 0), (10, 0), (11, 0), (12, 0), (15, 0), (16, 0), (0, 1023)] r' 13) (bx_val [(0, 0), (0, 0), (0, 0), (0, 0), (0, 0), (0, 0), (0, 0), (0, 0), (8, 0), (9, 0), (10, 0), (11, 0), (12, 0), (15, 0), (16, 0), (0, 1023)] r' 14) (bx_val [(0, 0), (0, 0), (0, 0), (0, 0), (0, 0), (0, 0), (0, 0), (0, 0), (8, 0), (9, 0), (10, 0), (11, 0), (12, 0), (15, 0), (16, 0), (0, 1023)] r' 15)
    rw [bx_val_x (n := 8) (e := (8, 0)) h0_ rfl, bx_val_x (n := 9) (e := (9, 0)) h0_ rfl, bx_val_x (n := 10) (e := (10, 0)) h0_ rfl, bx_val_x (n := 11) (e := (11, 0)) h0_ rfl, bx_val_x (n := 12) (e := (12, 0)) h0_ rfl, bx_val_x (n := 13) (e := (15, 0)) h0_ rfl, bx_val_x (n := 14) (e := (16, 0)) h0_ rfl, bx_val_x (n := 15) (e := (0, 1023)) h0_ rfl]
    exact g.2.2.1
  · show rxmLME_10 S0 ws S' (bx_val [(0, 0), (0, 0), (0, 0), (0, 0), (0, 0), (0, 0), (0, 0), (0, 0), (8, 0), (9, 0), (10, 0), (11, 0), (12, 0), (15, 0), (16, 0), (0, 1023)] r' 8) (bx_val [(0, 0), (0, 0), (0, 0), (0, 0), (0, 0), (0, 0), (0, 0), (0, 0), (8, 0), (9, 0), (10, 0), (11, 0), (12, 0), (15, 0), (16, 0), (0, 1023)] r' 9) (bx_val [(0, 0), (0, 0), (0, 0), (0, 0), (0, 0), (0, 0), (0, 0), (0, 0), (8, 0), (9, 0), (10, 0), (11, 0), (12, 0), (15, 0), (16, 0), (0, 1023)] r' 10) (bx_val [(0, 0), (0, 0), (0, 0), (0, 0), (0, 0), (0, 0), (0, 0), (0, 0), (8, 0), (9, 0), (10, 0), (11, 0), (12, 0), (15, 0), (16, 0), (0, 1023)] r' 11) (bx_val [(0, 0), (0, 0), (0, 0), (0, 0), (0, 0), (0, 0), (0, 0), (0, 0), (8, 0), (9, 0), (10, 0), (11, 0), (12, 0), (15, 0), (16, 0), (0, 1023)] r' 12) (bx_val [(0, 0), (0, 0), (0, 0), (0, 0), (0, 0), (0, 0), (0, 0), (0, 0), (8, 0), (9, 0), (10, 0), (11, 0), (12, 0), (15, 0), (16, 0), (0, 1023)] r' 13) (bx_val [(0, 0), (0, 0), (0, 0), (0, 0), (0, 0), (0, 0), (0, 0), (0, 0), (8, 0), (9, 0), (10, 0), (11, 0), (12, 0), (15, 0), (16, 0), (0, 1023)] r' 14) (bx_val [(0, 0), (0, 0), (0, 0), (0, 0), (0, 0), (0, 0), (0, 0), (0, 0), (8, 0), (9, 0), (10, 0), (11, 0), (12, 0), (15, 0), (16, 0), (0, 1023)] r' 15) < rxmLME_6 S0 ws S' (r 8) (r 9) (r 10) (r 11) (r 12)
    rw [bx_val_x (n := 8) (e := (8, 0)) h0_ rfl, bx_val_x (n := 9) (e := (9, 0)) h0_ rfl, bx_val_x (n := 10) (e := (10, 0)) h0_ rfl, bx_val_x (n := 11) (e := (11, 0)) h0_ rfl, bx_val_x (n := 12) (e := (12, 0)) h0_ rfl, bx_val_x (n := 13) (e := (15, 0)) h0_ rfl, bx_val_x (n := 14) (e := (16, 0)) h0_ rfl, bx_val_x (n := 15) (e := (0, 1023)) h0_ rfl, ← hr_ 8 (by decide), ← hr_ 9 (by decide), ← hr_ 10 (by decide), ← hr_ 11 (by decide), ← hr_ 12 (by decide)]
    exact g.2.2.2
theorem rxcLME_6_4 {S0 : Nat → Int → Int} {ws : List Int} {S : Nat → Int → Int} {m row1 cue st s x13 x14 x15 x16 : Int} (hP : rxPLME S0 ws) (hin : bx_same rxL (bx_mdl rxCLME.2.2.1) S0 S) (I0 : bx_Inv rxL S) (hinv : rxILME_6 S0 ws S m row1 cue st s) (l8 : 1 ≤ m) (u8 : m ≤ 3) (l9 : 0 ≤ row1) (u9 : row1 ≤ 3) (l10 : 0 ≤ cue) (u10 : cue ≤ 5) (l11 : (-1) ≤ st) (u11 : st ≤ (-1)) (l12 : 0 ≤ s) (u12 : s ≤ 2) (l13 : 0 ≤ x13) (u13 : x13 ≤ 12) (l14 : 0 ≤ x14) (u14 : x14 ≤ 17) (l15 : 0 ≤ x15) (u15 : x15 ≤ 9) (l16 : 0 ≤ x16) (u16 : x16 ≤ 1023) (f0 : x15 ≠ (-1)) (f1 : x14 = x13 + cue) (f2 : x13 = 6 * (s)) (f3 : s < m) (e1 : S 514 x14 = x15) (e0 : S 480 70 = x16) : (True) ∧ (True) ∧ rxILME_7 S0 ws S m row1 cue st s x15 x16 x15 ∧ rxmLME_7 S0 ws S m row1 cue st s x15 x16 x15 < rxmLME_6 S0 ws S m row1 cue st s := by
  obtain ⟨hu, hw, hs, hz, hb⟩ := hinv
  rw [ldU69_R hu 514 (by omega)] at e1
  exact ⟨by first | trivial | exact ⟨by omega, trivial⟩, trivial, ⟨rfl, by rw [show 6 * s + cue = x14 by omega]; exact e1.symm, by omega, hu, hw, by omega, hz, e0.symm, hb⟩, by unfold rxmLME_6 rxmLME_7; omega⟩
theorem rxgLME_6_4 {X : (Nat → Int → Int) → Prop} {S0 : Nat → Int → Int} {ws : List Int} (hP : rxPLME S0 ws) : bx_obC rxL X S0 rxCLME.2.2.1 (rxILME S0 ws) (rxmLME S0 ws) 6 rxzLME_6 rxoLME_6_4 := by
  intro S S' r r' hinv hX hin hsm_ hseg
  obtain ⟨I0, I1, h0_, hr_, b_, f_, d_⟩ := bx_cl (evs := [(0, (0, 480), (0, 70), .inr (0, (16, 0))), (0, (0, 514), (14, 0), .inr (0, (15, 0)))]) (fvs := [(3, (15, 0), (0, (-1)), (0, 0)), (5, (14, 0), (13, 0), (10, 0)), (4, (13, 0), (12, 0), (0, 6)), (0, (12, 0), (8, 0), (0, 0))]) hseg (by decide +kernel) (by decide +kernel)
  have hinv : rxILME_6 S0 ws S (r 8) (r 9) (r 10) (r 11) (r 12) := hinv
  rw [← hr_ 8 (by decide), ← hr_ 9 (by decide), ← hr_ 10 (by decide), ← hr_ 11 (by decide), ← hr_ 12 (by decide)] at hinv
  obtain ⟨⟨l8, u8⟩, ⟨l9, u9⟩, ⟨l10, u10⟩, ⟨l11, u11⟩, ⟨l12, u12⟩, ⟨l13, u13⟩, ⟨l14, u14⟩, ⟨l15, u15⟩, ⟨l16, u16⟩, -⟩ := b_
  obtain ⟨f0, f1, f2, f3, -⟩ := f_
  obtain ⟨e0, ⟨e1, w_⟩⟩ := d_
  subst w_
  have g := rxcLME_6_4 hP hin I0 hinv l8 u8 l9 u9 l10 u10 l11 u11 l12 u12 l13 u13 l14 u14 l15 u15 l16 u16 f0 f1 f2 f3 e1 e0
  refine ⟨bx_narP_ok (l := []) g.1, bx_nfP_ok h0_ (fvs := []) (by decide +kernel) g.2.1, ?_, ?_⟩
  · show rxILME_7 S0 ws S' (bx_val [(0, 0), (0, 0), (0, 0), (0, 0), (0, 0), (0, 0), (0, 0), (0, 0), (8, 0), (9, 0), (10, 0), (11, 0), (12, 0), (15, 0), (16, 0), (15, 0)] r' 8) (bx_val [(0, 0), (0, 0), (0, 0), (0, 0), (0, 0), (0, 0), (0, 0), (0, 0), (8, 0), (9, 0), (10, 0), (11, 0), (12, 0), (15, 0), (16, 0), (15, 0)] r' 9) (bx_val [(0, 0), (0, 0), (0, 0), (0, 0), (0, 0), (0, 0), (0, 0), (0, 0), (8, 0), (9, 0), (10, 0), (11, 0), (12, 0), (15, 0), (16, 0), (15, 0)] r' 10) (bx_val [(0, 0), (0, 0), (0, 0), (0, 0), (0, 0), (0, 0), (0, 0), (0, 0), (8, 0), (9, 0), (10, 0), (11, 0), (12, 0), (15, 0), (16, 0), (15, 0)] r' 11) (bx_val [(0, 0), (0, 0), (0, 0), (0, 0), (0, 0), (0, 0), (0, 0), (0, 0), (8, 0), (9, 0), (10, 0), (11, 0), (12, 0), (15, 0), (16, 0), (15, 0)] r' 12) (bx_val [(0, 0), (0, 0), (0, 0), (0, 0), (0, 0), (0, 0), (0, 0), (0, 0), (8, 0), (9, 0), (10, 0), (11, 0), (12, 0), (15, 0), (16, 0), (15, 0)] r' 13) (bx_val [(0, 0), (0, 0), (0, 0), (0, 0), (0, 0), (0, 0), (0, 0), (0, 0), (8, 0), (9, 0), (10, 0), (11, 0), (12, 0), (15, 0), (16, 0), (15, 0)] r' 14) (bx_val [(0, 0), (0, 0), (0, 0), (0, 0), (0, 0), (0, 0), (0, 0), (0, 0), (8, 0), (9, 0), (10, 0), (11, 0), (12, 0), (15, 0), (16, 0), (15, 0)] r' 15)
    rw [bx_val_x (n := 8) (e := (8, 0)) h0_ rfl, bx_val_x (n := 9) (e := (9, 0)) h0_ rfl, bx_val_x (n := 10) (e := (10, 0)) h0_ rfl, bx_val_x (n := 11) (e := (11, 0)) h0_ rfl, bx_val_x (n := 12) (e := (12, 0)) h0_ rfl, bx_val_x (n := 13) (e := (15, 0)) h0_ rfl, bx_val_x (n := 14) (e := (16, 0)) h0_ rfl, bx_val_x (n := 15) (e := (15, 0)) h0_ rfl]
    exact g.2.2.1
  · show rxmLME_7 S0 ws S' (bx_val [(0, 0), (0, 0), (0, 0), (0, 0), (0, 0), (0, 0), (0, 0), (0, 0), (8, 0), (9, 0), (10, 0), (11, 0), (12, 0), (15, 0), (16, 0), (15, 0)] r' 8) (bx_val [(0, 0), (0, 0), (0, 0), (0, 0), (0, 0), (0, 0), (0, 0), (0, 0), (8, 0), (9, 0), (10, 0), (11, 0), (12, 0), (15, 0), (16, 0), (15, 0)] r' 9) (bx_val [(0, 0), (0, 0), (0, 0), (0, 0), (0, 0), (0, 0), (0, 0), (0, 0), (8, 0), (9, 0), (10, 0), (11, 0), (12, 0), (15, 0), (16, 0), (15, 0)] r' 10) (bx_val [(0, 0), (0, 0), (0, 0), (0, 0), (0, 0), (0, 0), (0, 0), (0, 0), (8, 0), (9, 0), (10, 0), (11, 0), (12, 0), (15, 0), (16, 0), (15, 0)] r' 11) (bx_val [(0, 0), (0, 0), (0, 0), (0, 0), (0, 0), (0, 0), (0, 0), (0, 0), (8, 0), (9, 0), (10, 0), (11, 0), (12, 0), (15, 0), (16, 0), (15, 0)] r' 12) (bx_val [(0, 0), (0, 0), (0, 0), (0, 0), (0, 0), (0, 0), (0, 0), (0, 0), (8, 0), (9, 0), (10, 0), (11, 0), (12, 0), (15, 0), (16, 0), (15, 0)] r' 13) (bx_val [(0, 0), (0, 0), (0, 0), (0, 0), (0, 0), (0, 0), (0, 0), (0, 0), (8, 0), (9, 0), (10, 0), (11, 0), (12, 0), (15, 0), (16, 0), (15, 0)] r' 14) (bx_val [(0, 0), (0, 0), (0, 0), (0, 0), (0, 0), (0, 0), (0, 0), (0, 0), (8, 0), (9, 0), (10, 0), (11, 0), (12, 0), (15, 0), (16, 0), (15, 0)] r' 15) < rxmLME_6 S0 ws S' (r 8) (r 9) (r 10) (r 11) (r 12)
    rw [bx_val_x (n := 8) (e := (8, 0)) h0_ rfl, bx_val_x (n := 9) (e := (9, 0)) h0_ rfl, bx_val_x (n := 10) (e := (10, 0)) h0_ rfl, bx_val_x (n := 11) (e := (11, 0)) h0_ rfl, bx_val_x (n := 12) (e := (12, 0)) h0_ rfl, bx_val_x (n := 13) (e := (15, 0)) h0_ rfl, bx_val_x (n := 14) (e := (16, 0)) h0_ rfl, bx_val_x (n := 15) (e := (15, 0)) h0_ rfl, ← hr_ 8 (by decide), ← hr_ 9 (by decide), ← hr_ 10 (by decide), ← hr_ 11 (by decide), ← hr_ 12 (by decide)]
    exact g.2.2.2
theorem rxdLME_6_0 {S0 : Nat → Int → Int} {ws : List Int} {S : Nat → Int → Int} {m row1 cue st s : Int} (hP : rxPLME S0 ws) (hin : bx_same rxL (bx_mdl rxCLME.2.2.1) S0 S) (hin2 : bx_same rxL (bx_mdl rxCLME.2.2.1) S S) (I0 : bx_Inv rxL S) (I1 : bx_Inv rxL S) (hinv : rxILME_6 S0 ws S m row1 cue st s) (l8 : 1 ≤ m) (u8 : m ≤ 3) (l9 : 0 ≤ row1) (u9 : row1 ≤ 3) (l10 : 0 ≤ cue) (u10 : cue ≤ 5) (l11 : (-1) ≤ st) (u11 : st ≤ 2) (l12 : 1 ≤ s) (u12 : s ≤ 3) (f0 : m ≤ s) : (True) ∧ rxPSLME S0 ws S none := by
  obtain ⟨hu, hw, hs, ⟨z, hz, hst⟩, hb⟩ := hinv
  rw [hst, ldgs_e (by omega)] at hb
  exact ⟨trivial, rfl, m, row1, cue, z, hw, hz, hu, hb⟩
theorem rxfLME_6_0 {X : (Nat → Int → Int) → Prop} {S0 : Nat → Int → Int} {ws : List Int} (hP : rxPLME S0 ws) : bx_obE rxL X S0 rxCLME.2.2.1 (rxILME S0 ws) (rxPSLME S0 ws) 6 rxzLME_6 rxeLME_6_0 := by
  intro S S' r r' hinv hX hin hsm_ hseg
  obtain ⟨I0, I1, h0_, hr_, b_, f_, d_⟩ := bx_cl (evs := []) (fvs := [(1, (8, 0), (12, 0), (0, 0))]) hseg (by decide +kernel) (by decide +kernel)
  have hinv : rxILME_6 S0 ws S (r 8) (r 9) (r 10) (r 11) (r 12) := hinv
  rw [← hr_ 8 (by decide), ← hr_ 9 (by decide), ← hr_ 10 (by decide), ← hr_ 11 (by decide), ← hr_ 12 (by decide)] at hinv
  obtain ⟨⟨l8, u8⟩, ⟨l9, u9⟩, ⟨l10, u10⟩, ⟨l11, u11⟩, ⟨l12, u12⟩, -⟩ := b_
  obtain ⟨f0, -⟩ := f_
  have w_ := d_
  subst w_
  have g := rxdLME_6_0 hP hin hsm_ I0 I1 hinv l8 u8 l9 u9 l10 u10 l11 u11 l12 u12 f0
  refine ⟨bx_narP_ok (l := []) g.1, ?_⟩
  exact g.2
theorem rxcLME_9_0 {S0 : Nat → Int → Int} {ws : List Int} {S : Nat → Int → Int} {m row1 cue st s w6 bt w7 y z2 : Int} (hP : rxPLME S0 ws) (hin : bx_same rxL (bx_mdl rxCLME.2.2.1) S0 S) (I0 : bx_Inv rxL S) (hinv : rxILME_9 S0 ws S m row1 cue st s w6 bt w7 y z2) (l8 : 1 ≤ m) (u8 : m ≤ 3) (l9 : 0 ≤ row1) (u9 : row1 ≤ 3) (l10 : 0 ≤ cue) (u10 : cue ≤ 5) (l11 : (-1) ≤ st) (u11 : st ≤ 2) (l12 : 0 ≤ s) (u12 : s ≤ 2) (l13 : (-1) ≤ w6) (u13 : w6 ≤ 9) (l14 : 0 ≤ bt) (u14 : bt ≤ 1023) (l15 : 0 ≤ w7) (u15 : w7 ≤ 9) (l16 : 1 ≤ y) (u16 : y ≤ 512) (l17 : 0 ≤ z2) (u17 : z2 ≤ 1023) : (True) ∧ (True) ∧ rxILME_6 S0 ws (bx_up S 480 70 z2) m row1 cue st (s + 1) ∧ rxmLME_6 S0 ws (bx_up S 480 70 z2) m row1 cue st (s + 1) < rxmLME_9 S0 ws S m row1 cue st s w6 bt w7 y z2 := by
  obtain ⟨hu, hw, hs, hz, hz2⟩ := hinv
  exact ⟨trivial, trivial, ⟨⟨by rw [bx_up_ne (by omega)]; exact hu.1, fun p j h => (bx_up_ne (fun q => h ⟨q.1, Or.inr q.2⟩)).trans (hu.2 p j h)⟩, hw, by omega, hz, by rw [bx_up_at]; exact hz2⟩, by unfold rxmLME_9 rxmLME_6; omega⟩
theorem rxgLME_9_0 {X : (Nat → Int → Int) → Prop} {S0 : Nat → Int → Int} {ws : List Int} (hP : rxPLME S0 ws) : bx_obC rxL X S0 rxCLME.2.2.1 (rxILME S0 ws) (rxmLME S0 ws) 9 rxzLME_9 rxoLME_9_0 := by
  intro S S' r r' hinv hX hin hsm_ hseg
  obtain ⟨I0, I1, h0_, hr_, b_, f_, d_⟩ := bx_cl (evs := [(1, (0, 480), (0, 70), .inr (0, (17, 0)))]) (fvs := []) hseg (by decide +kernel) (by decide +kernel)
  have hinv : rxILME_9 S0 ws S (r 8) (r 9) (r 10) (r 11) (r 12) (r 13) (r 14) (r 15) (r 16) (r 17) := hinv
  rw [← hr_ 8 (by decide), ← hr_ 9 (by decide), ← hr_ 10 (by decide), ← hr_ 11 (by decide), ← hr_ 12 (by decide), ← hr_ 13 (by decide), ← hr_ 14 (by decide), ← hr_ 15 (by decide), ← hr_ 16 (by decide), ← hr_ 17 (by decide)] at hinv
  obtain ⟨⟨l8, u8⟩, ⟨l9, u9⟩, ⟨l10, u10⟩, ⟨l11, u11⟩, ⟨l12, u12⟩, ⟨l13, u13⟩, ⟨l14, u14⟩, ⟨l15, u15⟩, ⟨l16, u16⟩, ⟨l17, u17⟩, -⟩ := b_
  obtain ⟨T0, w_, w0⟩ := d_
  subst w0
  subst w_
  have g := rxcLME_9_0 hP hin I0 hinv l8 u8 l9 u9 l10 u10 l11 u11 l12 u12 l13 u13 l14 u14 l15 u15 l16 u16 l17 u17
  refine ⟨bx_narP_ok (l := []) g.1, bx_nfP_ok h0_ (fvs := []) (by decide +kernel) g.2.1, ?_, ?_⟩
  · show rxILME_6 S0 ws (bx_up T0 480 (70) (r' 17)) (bx_val [(0, 0), (0, 0), (0, 0), (0, 0), (0, 0), (0, 0), (0, 0), (0, 0), (8, 0), (9, 0), (10, 0), (11, 0), (12, 1)] r' 8) (bx_val [(0, 0), (0, 0), (0, 0), (0, 0), (0, 0), (0, 0), (0, 0), (0, 0), (8, 0), (9, 0), (10, 0), (11, 0), (12, 1)] r' 9) (bx_val [(0, 0), (0, 0), (0, 0), (0, 0), (0, 0), (0, 0), (0, 0), (0, 0), (8, 0), (9, 0), (10, 0), (11, 0), (12, 1)] r' 10) (bx_val [(0, 0), (0, 0), (0, 0), (0, 0), (0, 0), (0, 0), (0, 0), (0, 0), (8, 0), (9, 0), (10, 0), (11, 0), (12, 1)] r' 11) (bx_val [(0, 0), (0, 0), (0, 0), (0, 0), (0, 0), (0, 0), (0, 0), (0, 0), (8, 0), (9, 0), (10, 0), (11, 0), (12, 1)] r' 12)
    rw [bx_val_x (n := 8) (e := (8, 0)) h0_ rfl, bx_val_x (n := 9) (e := (9, 0)) h0_ rfl, bx_val_x (n := 10) (e := (10, 0)) h0_ rfl, bx_val_x (n := 11) (e := (11, 0)) h0_ rfl, bx_val_x (n := 12) (e := (12, 1)) h0_ rfl]
    exact g.2.2.1
  · show rxmLME_6 S0 ws (bx_up T0 480 (70) (r' 17)) (bx_val [(0, 0), (0, 0), (0, 0), (0, 0), (0, 0), (0, 0), (0, 0), (0, 0), (8, 0), (9, 0), (10, 0), (11, 0), (12, 1)] r' 8) (bx_val [(0, 0), (0, 0), (0, 0), (0, 0), (0, 0), (0, 0), (0, 0), (0, 0), (8, 0), (9, 0), (10, 0), (11, 0), (12, 1)] r' 9) (bx_val [(0, 0), (0, 0), (0, 0), (0, 0), (0, 0), (0, 0), (0, 0), (0, 0), (8, 0), (9, 0), (10, 0), (11, 0), (12, 1)] r' 10) (bx_val [(0, 0), (0, 0), (0, 0), (0, 0), (0, 0), (0, 0), (0, 0), (0, 0), (8, 0), (9, 0), (10, 0), (11, 0), (12, 1)] r' 11) (bx_val [(0, 0), (0, 0), (0, 0), (0, 0), (0, 0), (0, 0), (0, 0), (0, 0), (8, 0), (9, 0), (10, 0), (11, 0), (12, 1)] r' 12) < rxmLME_9 S0 ws T0 (r 8) (r 9) (r 10) (r 11) (r 12) (r 13) (r 14) (r 15) (r 16) (r 17)
    rw [bx_val_x (n := 8) (e := (8, 0)) h0_ rfl, bx_val_x (n := 9) (e := (9, 0)) h0_ rfl, bx_val_x (n := 10) (e := (10, 0)) h0_ rfl, bx_val_x (n := 11) (e := (11, 0)) h0_ rfl, bx_val_x (n := 12) (e := (12, 1)) h0_ rfl, ← hr_ 8 (by decide), ← hr_ 9 (by decide), ← hr_ 10 (by decide), ← hr_ 11 (by decide), ← hr_ 12 (by decide), ← hr_ 13 (by decide), ← hr_ 14 (by decide), ← hr_ 15 (by decide), ← hr_ 16 (by decide), ← hr_ 17 (by decide)]
    exact g.2.2.2
theorem rxcLME_11_0 {S0 : Nat → Int → Int} {ws : List Int} {S : Nat → Int → Int} {m row1 cue st s w6 bt vv z2 : Int} (hP : rxPLME S0 ws) (hin : bx_same rxL (bx_mdl rxCLME.2.2.1) S0 S) (I0 : bx_Inv rxL S) (hinv : rxILME_11 S0 ws S m row1 cue st s w6 bt vv z2) (l8 : 1 ≤ m) (u8 : m ≤ 3) (l9 : 0 ≤ row1) (u9 : row1 ≤ 3) (l10 : 0 ≤ cue) (u10 : cue ≤ 5) (l11 : (-1) ≤ st) (u11 : st ≤ 2) (l12 : 0 ≤ s) (u12 : s ≤ 2) (l13 : (-1) ≤ w6) (u13 : w6 ≤ 9) (l14 : 0 ≤ bt) (u14 : bt ≤ 1023) (l15 : 0 ≤ vv) (u15 : vv ≤ 1023) (l16 : 0 ≤ z2) (u16 : z2 ≤ 1023) : (True) ∧ (True) ∧ rxILME_6 S0 ws (bx_up S 480 70 z2) m row1 cue st (s + 1) ∧ rxmLME_6 S0 ws (bx_up S 480 70 z2) m row1 cue st (s + 1) < rxmLME_11 S0 ws S m row1 cue st s w6 bt vv z2 := by
  obtain ⟨hu, hw, hs, hz, hz2⟩ := hinv
  exact ⟨trivial, trivial, ⟨⟨by rw [bx_up_ne (by omega)]; exact hu.1, fun p j h => (bx_up_ne (fun q => h ⟨q.1, Or.inr q.2⟩)).trans (hu.2 p j h)⟩, hw, by omega, hz, by rw [bx_up_at]; exact hz2⟩, by unfold rxmLME_11 rxmLME_6; omega⟩
theorem rxgLME_11_0 {X : (Nat → Int → Int) → Prop} {S0 : Nat → Int → Int} {ws : List Int} (hP : rxPLME S0 ws) : bx_obC rxL X S0 rxCLME.2.2.1 (rxILME S0 ws) (rxmLME S0 ws) 11 rxzLME_11 rxoLME_11_0 := by
  intro S S' r r' hinv hX hin hsm_ hseg
  obtain ⟨I0, I1, h0_, hr_, b_, f_, d_⟩ := bx_cl (evs := [(1, (0, 480), (0, 70), .inr (0, (16, 0)))]) (fvs := []) hseg (by decide +kernel) (by decide +kernel)
  have hinv : rxILME_11 S0 ws S (r 8) (r 9) (r 10) (r 11) (r 12) (r 13) (r 14) (r 15) (r 16) := hinv
  rw [← hr_ 8 (by decide), ← hr_ 9 (by decide), ← hr_ 10 (by decide), ← hr_ 11 (by decide), ← hr_ 12 (by decide), ← hr_ 13 (by decide), ← hr_ 14 (by decide), ← hr_ 15 (by decide), ← hr_ 16 (by decide)] at hinv
  obtain ⟨⟨l8, u8⟩, ⟨l9, u9⟩, ⟨l10, u10⟩, ⟨l11, u11⟩, ⟨l12, u12⟩, ⟨l13, u13⟩, ⟨l14, u14⟩, ⟨l15, u15⟩, ⟨l16, u16⟩, -⟩ := b_
  obtain ⟨T0, w_, w0⟩ := d_
  subst w0
  subst w_
  have g := rxcLME_11_0 hP hin I0 hinv l8 u8 l9 u9 l10 u10 l11 u11 l12 u12 l13 u13 l14 u14 l15 u15 l16 u16
  refine ⟨bx_narP_ok (l := []) g.1, bx_nfP_ok h0_ (fvs := []) (by decide +kernel) g.2.1, ?_, ?_⟩
  · show rxILME_6 S0 ws (bx_up T0 480 (70) (r' 16)) (bx_val [(0, 0), (0, 0), (0, 0), (0, 0), (0, 0), (0, 0), (0, 0), (0, 0), (8, 0), (9, 0), (10, 0), (11, 0), (12, 1)] r' 8) (bx_val [(0, 0), (0, 0), (0, 0), (0, 0), (0, 0), (0, 0), (0, 0), (0, 0), (8, 0), (9, 0), (10, 0), (11, 0), (12, 1)] r' 9) (bx_val [(0, 0), (0, 0), (0, 0), (0, 0), (0, 0), (0, 0), (0, 0), (0, 0), (8, 0), (9, 0), (10, 0), (11, 0), (12, 1)] r' 10) (bx_val [(0, 0), (0, 0), (0, 0), (0, 0), (0, 0), (0, 0), (0, 0), (0, 0), (8, 0), (9, 0), (10, 0), (11, 0), (12, 1)] r' 11) (bx_val [(0, 0), (0, 0), (0, 0), (0, 0), (0, 0), (0, 0), (0, 0), (0, 0), (8, 0), (9, 0), (10, 0), (11, 0), (12, 1)] r' 12)
    rw [bx_val_x (n := 8) (e := (8, 0)) h0_ rfl, bx_val_x (n := 9) (e := (9, 0)) h0_ rfl, bx_val_x (n := 10) (e := (10, 0)) h0_ rfl, bx_val_x (n := 11) (e := (11, 0)) h0_ rfl, bx_val_x (n := 12) (e := (12, 1)) h0_ rfl]
    exact g.2.2.1
  · show rxmLME_6 S0 ws (bx_up T0 480 (70) (r' 16)) (bx_val [(0, 0), (0, 0), (0, 0), (0, 0), (0, 0), (0, 0), (0, 0), (0, 0), (8, 0), (9, 0), (10, 0), (11, 0), (12, 1)] r' 8) (bx_val [(0, 0), (0, 0), (0, 0), (0, 0), (0, 0), (0, 0), (0, 0), (0, 0), (8, 0), (9, 0), (10, 0), (11, 0), (12, 1)] r' 9) (bx_val [(0, 0), (0, 0), (0, 0), (0, 0), (0, 0), (0, 0), (0, 0), (0, 0), (8, 0), (9, 0), (10, 0), (11, 0), (12, 1)] r' 10) (bx_val [(0, 0), (0, 0), (0, 0), (0, 0), (0, 0), (0, 0), (0, 0), (0, 0), (8, 0), (9, 0), (10, 0), (11, 0), (12, 1)] r' 11) (bx_val [(0, 0), (0, 0), (0, 0), (0, 0), (0, 0), (0, 0), (0, 0), (0, 0), (8, 0), (9, 0), (10, 0), (11, 0), (12, 1)] r' 12) < rxmLME_11 S0 ws T0 (r 8) (r 9) (r 10) (r 11) (r 12) (r 13) (r 14) (r 15) (r 16)
    rw [bx_val_x (n := 8) (e := (8, 0)) h0_ rfl, bx_val_x (n := 9) (e := (9, 0)) h0_ rfl, bx_val_x (n := 10) (e := (10, 0)) h0_ rfl, bx_val_x (n := 11) (e := (11, 0)) h0_ rfl, bx_val_x (n := 12) (e := (12, 1)) h0_ rfl, ← hr_ 8 (by decide), ← hr_ 9 (by decide), ← hr_ 10 (by decide), ← hr_ 11 (by decide), ← hr_ 12 (by decide), ← hr_ 13 (by decide), ← hr_ 14 (by decide), ← hr_ 15 (by decide), ← hr_ 16 (by decide)]
    exact g.2.2.2
theorem rxgCLME {X : (Nat → Int → Int) → Prop} {S0 : Nat → Int → Int} {ws : List Int} (hP : rxPLME S0 ws) : bx_allI (fun i q => rxULME q = true ∨ bx_allP (fun o => bx_obC rxL X S0 rxCLME.2.2.1 (rxILME S0 ws) (rxmLME S0 ws) i q.1 o) q.2.1) 0 rxYLME := ⟨Or.inr ⟨rxgLME_0_0 hP, trivial⟩, Or.inr ⟨rxgLME_1_0 hP, trivial⟩, Or.inr ⟨rxgLME_2_0 hP, rxgLME_2_1 hP, rxgLME_2_2 hP, trivial⟩, Or.inl rfl, Or.inr ⟨rxgLME_4_0 hP, rxgLME_4_1 hP, trivial⟩, Or.inr ⟨rxgLME_5_0 hP, trivial⟩, Or.inr ⟨rxgLME_6_0 hP, rxgLME_6_1 hP, rxgLME_6_2 hP, rxgLME_6_3 hP, rxgLME_6_4 hP, trivial⟩, Or.inl rfl, Or.inl rfl, Or.inr ⟨rxgLME_9_0 hP, trivial⟩, Or.inl rfl, Or.inr ⟨rxgLME_11_0 hP, trivial⟩, trivial⟩
theorem rxgELME {X : (Nat → Int → Int) → Prop} {S0 : Nat → Int → Int} {ws : List Int} (hP : rxPLME S0 ws) : bx_allI (fun i q => rxULME q = true ∨ bx_allP (fun E => bx_obE rxL X S0 rxCLME.2.2.1 (rxILME S0 ws) (rxPSLME S0 ws) i q.1 E) q.2.2) 0 rxYLME := ⟨Or.inr trivial, Or.inr trivial, Or.inr trivial, Or.inl rfl, Or.inr trivial, Or.inr trivial, Or.inr ⟨rxfLME_6_0 hP, trivial⟩, Or.inl rfl, Or.inl rfl, Or.inr trivial, Or.inl rfl, Or.inr trivial, trivial⟩
theorem rxuLME {PX : State → Prop} {Dg : va_G} {A : Nat → Prop} {ad xa : Nat → Nat} {l : Launch} {X : (Nat → Int → Int) → Prop} (hPX : rx_PXOK rxNW A PX) (hX : ∀ S S1 : Nat → Int → Int, X S → bx_same rxL (bx_mdl rxCLME.2.2.1) S S1 → X S1) (hQIL : bx_ConP rxG rxNW rxAO PX Dg rxL X vwCl A ad l rxM318 rxCIL rxPIL rxPSIL) {S0 : Nat → Int → Int} {ws : List Int} (hP : rxPLME S0 ws) : ∀ (i : Nat) (q : bx_HE), rxYLME[i]? = some q → rxULME q = true → ∀ {p : Program} {e : Env} {R : Room} {s : State} {m : MethodId} {args : Array Value} {below : List Frame} {meth : Method} {c : Code} {Q : State → Prop} {H0 : Heap}, rx_Fr rxG rxNW rxAO PX p s m args meth c rxM319 → (∀ q, H0.size ≤ q → A q) → H0 = s.heap → rxM319.2.2.2.2.2.2.1 ≤ R.cells → rxM319.2.2.2.2.2.2.2 ≤ R.slots → rxCLME.2.2.2.1 ≤ R.frames → rxCLME.2.2.2.1 * 40 ≤ R.locals → bx_Step p l e R s m args below meth c Q Dg rxL X vwCl A xa H0 ad rxM319 rxYLME (rxILME S0 ws) (rxmLME S0 ws) S0 rxCLME.2.2.1 i q := by
  intro i q hq hus p e R s m args below meth c Q H0 hF hA hH0 hmc hms hd hdl
  match i, hq with
  | 0, hq =>
    cases hq
    exact absurd (show false = true from hus) Bool.false_ne_true
  | 1, hq =>
    cases hq
    exact absurd (show false = true from hus) Bool.false_ne_true
  | 2, hq =>
    cases hq
    exact absurd (show false = true from hus) Bool.false_ne_true
  | 3, hq =>
    cases hq
    exact rx_stepC (ins := .invokevirtual 577) (len := 3) (i' := 4) (M' := rxM318) (d := rxCLME.2.2.2.1) (as := [.inr (3, (0, 480)), .inr (0, (13, 0))]) (t := []) (ct := rxCIL) hPX hF rfl hA hH0 hmc hms hd hdl (by decide +kernel) rfl rfl (by decide +kernel) (by decide +kernel) hQIL (by decide +kernel) rfl (Or.inr ⟨_, _, _, 1, rfl, rfl, by omega, rfl, rfl, rfl⟩) (rxsLME_3 hP)
  | 4, hq =>
    cases hq
    exact absurd (show false = true from hus) Bool.false_ne_true
  | 5, hq =>
    cases hq
    exact absurd (show false = true from hus) Bool.false_ne_true
  | 6, hq =>
    cases hq
    exact absurd (show false = true from hus) Bool.false_ne_true
  | 7, hq =>
    cases hq
    exact rx_stepBS (i' := 8) (o := 35) (a := (0, 1)) (b := (15, 0)) (lo := 1) (hi := 512) (t := [.inr (0, (14, 0)), .inr (3, (0, 480))]) hF (⟨rfl, rfl⟩) (by decide +kernel) rfl rfl rfl rfl (rxsLME_7 hP)
  | 8, hq =>
    cases hq
    exact rx_stepB (i' := 9) (o := 6) (a := (14, 0)) (b := (16, 0)) (lo := 0) (hi := 1023) (t := [.inr (3, (0, 480))]) hF (Or.inr (Or.inr (Or.inr ⟨rfl, rfl⟩))) (by decide +kernel) rfl rfl rfl rfl (rxsLME_8 hP)
  | 9, hq =>
    cases hq
    exact absurd (show false = true from hus) Bool.false_ne_true
  | 10, hq =>
    cases hq
    exact rx_stepB (i' := 11) (o := 6) (a := (14, 0)) (b := (15, 0)) (lo := 0) (hi := 1023) (t := [.inr (3, (0, 480))]) hF (Or.inr (Or.inr (Or.inr ⟨rfl, rfl⟩))) (by decide +kernel) rfl rfl rfl rfl (rxsLME_10 hP)
  | 11, hq =>
    cases hq
    exact absurd (show false = true from hus) Bool.false_ne_true
  | n + 12, hq => cases hq
theorem rxQLME {PX : State → Prop} {Dg : va_G} {A : Nat → Prop} {ad xa : Nat → Nat} {l : Launch} {X : (Nat → Int → Int) → Prop} (hPX : rx_PXOK rxNW A PX) (hsl : ∀ s : State, PX s → ∀ o idx n : Nat, rxSl o idx = some n → ∃ tx : String, vk_R (rxNm o) idx tx (ad n) s)
    (hX : ∀ S S' : Nat → Int → Int, X S → bx_same rxL (bx_mdl rxCLME.2.2.1) S S' → X S')
    (ih : ∀ (j2 : Nat) (ct2 : bx_Ct) (M2 : rx_Mt), ct2 ∈ rxCnE j2 → ct2.2.2.2.1 + 1 ≤ rxCLME.2.2.2.1 → rxT.2.2.2.2.2 j2 = some M2 → bx_Con rxG rxNW rxAO PX Dg rxL X vwCl A ad l M2 ct2) (hQIL : bx_ConP rxG rxNW rxAO PX Dg rxL X vwCl A ad l rxM318 rxCIL rxPIL rxPSIL) : bx_ConP rxG rxNW rxAO PX Dg rxL X vwCl A ad l rxM319 rxCLME rxPLME rxPSLME :=
  rxQof (xa := xa) (Cn := rxCnE) (f := 30000) (j := 319) (tab := rxYLME) (us := rxULME) hPX hsl hX ih rfl rxYcLME rxILME rxmLME
    (fun S0 ws r I0 I ht0 ht as he he1 hX0 hI0 hP hs ha => by
      have e := he.symm.trans (show bx_ent0 rxNP rxCLME.1 bx_I0 [] = some ([(0, 0), (0, 0), (0, 0), (0, 0), (0, 0), (0, 0), (0, 0), (0, 0), (1, 3), (0, 3), (0, 5)], [], [.inr (3, (0, 480)), .inr (0, (8, 0)), .inr (0, (9, 0)), .inr (0, (10, 0))]) from rfl)
      cases e
      subst ha
      have h0 : r 0 = 0 := hs.1
      show rxILME_0 S0 _ S0 (r 8) (r 9) (r 10)
      refine ⟨rfl, ?_⟩
      simp only [List.map_cons, List.map_nil, bx_xv_ok h0]
      rfl)
    (fun S0 ws hP => rxuLME (xa := xa) hPX hX hQIL hP) (fun S0 ws hP => rxgCLME hP) (fun S0 ws hP => rxgELME hP)
