/-! A SEARCH by depth, measured: digits to the base of 8; what deeds' slots hold -/
def rxSum (f : Int → Int) : Nat → Int
  | 0 => 0
  | n + 1 => rxSum f n + f (n : Int) * ((8 ^ (11 - n) : Nat) : Int)
theorem rxSum_cg {f g : Int → Int} : ∀ {n : Nat}, (∀ j : Int, 0 ≤ j → j < (n : Int) → f j = g j) → rxSum f n = rxSum g n
  | 0, _ => rfl
  | n + 1, h => by
    unfold rxSum
    rw [rxSum_cg (n := n) fun j h0 h1 => h j h0 (by omega), h (n : Int) (by omega) (by omega)]
theorem rxSum_lo {f : Int → Int} : ∀ {n : Nat}, (∀ j : Int, 0 ≤ j → j < (n : Int) → 0 ≤ f j) → 0 ≤ rxSum f n
  | 0, _ => Int.le_refl 0
  | n + 1, h => by
    unfold rxSum
    have h1 := rxSum_lo (n := n) fun j a b => h j a (by omega)
    have h2 := Int.mul_nonneg (h (n : Int) (by omega) (by omega)) (Int.natCast_nonneg (8 ^ (11 - n)))
    omega
theorem rxSum_hi {f : Int → Int} : ∀ {n : Nat}, n ≤ 12 → (∀ j : Int, 0 ≤ j → j < (n : Int) → f j ≤ 7) → rxSum f n + ((8 ^ (12 - n) : Nat) : Int) ≤ ((8 ^ 12 : Nat) : Int)
  | 0, _, _ => by
    show 0 + ((8 ^ 12 : Nat) : Int) ≤ ((8 ^ 12 : Nat) : Int)
    omega
  | n + 1, hn, h => by
    have h1 := rxSum_hi (n := n) (by omega) fun j a b => h j a (by omega)
    have h2 := h (n : Int) (by omega) (by omega)
    have e : 8 ^ (12 - n) = 8 ^ (11 - n) * 8 := by
      rw [show 12 - n = 11 - n + 1 by omega, Nat.pow_succ]
    have e2 : 12 - (n + 1) = 11 - n := by omega
    unfold rxSum
    rw [e2]
    rw [e] at h1
    have h3 : f (n : Int) * ((8 ^ (11 - n) : Nat) : Int) ≤ 7 * ((8 ^ (11 - n) : Nat) : Int) := Int.mul_le_mul_of_nonneg_right h2 (Int.natCast_nonneg _)
    omega
/-- where the search stands: all before k as they are, k's digit done; the same with k's digit under way -/
def rxSP (f : Int → Int) (k : Int) : Int := rxSum f k.toNat + (f k + 1) * ((8 ^ (11 - k.toNat) : Nat) : Int)
def rxSQ (f : Int → Int) (k : Int) : Int := rxSum f k.toNat + f k * ((8 ^ (11 - k.toNat) : Nat) : Int)
theorem rxS_pos : ∀ n : Nat, 1 ≤ ((8 ^ n : Nat) : Int)
  | 0 => Int.le_refl 1
  | n + 1 => by
    have := rxS_pos n
    rw [Nat.pow_succ]
    omega
theorem rxSP_lo {f : Int → Int} {k : Int} (h : ∀ j : Int, 0 ≤ j → j < k → 0 ≤ f j) (hk : -1 ≤ f k) : 0 ≤ rxSP f k := by
  unfold rxSP
  have h1 := rxSum_lo (f := f) (n := k.toNat) fun j a b => h j a (by omega)
  have h2 := Int.mul_nonneg (show 0 ≤ f k + 1 by omega) (Int.natCast_nonneg (8 ^ (11 - k.toNat)))
  omega
theorem rxSP_hi {f : Int → Int} {k : Int} (h0 : 0 ≤ k) (h1 : k ≤ 11) (h : ∀ j : Int, 0 ≤ j → j < k → f j ≤ 7) (hk : f k ≤ 6) : rxSP f k ≤ 68719476736 := by
  unfold rxSP
  have h2 := rxSum_hi (f := f) (n := k.toNat) (by omega) fun j a b => h j a (by omega)
  have e : 8 ^ (12 - k.toNat) = 8 ^ (11 - k.toNat) * 8 := by
    rw [show 12 - k.toNat = 11 - k.toNat + 1 by omega, Nat.pow_succ]
  rw [e] at h2
  have h3 : (f k + 1) * ((8 ^ (11 - k.toNat) : Nat) : Int) ≤ 7 * ((8 ^ (11 - k.toNat) : Nat) : Int) := Int.mul_le_mul_of_nonneg_right (by omega) (Int.natCast_nonneg _)
  have h4 : ((8 ^ 12 : Nat) : Int) = 68719476736 := rfl
  have h5 := rxS_pos (11 - k.toNat)
  omega
theorem rxSP_next {f : Int → Int} {k : Int} : rxSQ f k + 1 ≤ rxSP f k := by
  unfold rxSP rxSQ
  have := rxS_pos (11 - k.toNat)
  rw [Int.add_mul, Int.one_mul]
  omega
theorem rxSQ_inc {f g : Int → Int} {k : Int} (h : ∀ j : Int, 0 ≤ j → j < k → g j = f j) (hk : g k = f k + 1) : rxSQ g k = rxSP f k := by
  unfold rxSP rxSQ
  rw [rxSum_cg (f := g) (g := f) fun j a b => h j a (by omega), hk]
theorem rxSQ_cg {f g : Int → Int} {k : Int} (h : ∀ j : Int, 0 ≤ j → j ≤ k → g j = f j) (hk : 0 ≤ k) : rxSQ g k = rxSQ f k := by
  unfold rxSQ
  rw [rxSum_cg (f := g) (g := f) fun j a b => h j a (by omega), h k hk (by omega)]
theorem rxSP_cg {f g : Int → Int} {k : Int} (h : ∀ j : Int, 0 ≤ j → j ≤ k → g j = f j) (hk : 0 ≤ k) : rxSP g k = rxSP f k := by
  unfold rxSP
  rw [rxSum_cg (f := g) (g := f) fun j a b => h j a (by omega), h k hk (by omega)]
theorem rxSP_push {f g : Int → Int} {k : Int} (h0 : 0 ≤ k) (h : ∀ j : Int, 0 ≤ j → j ≤ k → g j = f j) (hk : g (k + 1) = -1) : rxSP g (k + 1) = rxSQ f k := by
  unfold rxSP rxSQ
  rw [hk, show (k + 1).toNat = k.toNat + 1 by omega, show rxSum g (k.toNat + 1) = rxSum g k.toNat + g ((k.toNat : Nat) : Int) * ((8 ^ (11 - k.toNat) : Nat) : Int) from rfl]
  rw [rxSum_cg (f := g) (g := f) fun j a b => h j a (by omega), show ((k.toNat : Nat) : Int) = k by omega, h k h0 (by omega)]
  omega
theorem rxSP_pop {f g : Int → Int} {k : Int} (h0 : 1 ≤ k) (h1 : k ≤ 11) (h : ∀ j : Int, 0 ≤ j → j < k → g j = f j) (hk : f k ≤ 5) : rxSP f k + 2 ≤ rxSP g (k + -1) := by
  unfold rxSP
  have e : k.toNat = (k + -1).toNat + 1 := by omega
  rw [e]
  rw [show rxSum f ((k + -1).toNat + 1) = rxSum f (k + -1).toNat + f (((k + -1).toNat : Nat) : Int) * ((8 ^ (11 - (k + -1).toNat) : Nat) : Int) from rfl]
  rw [rxSum_cg (f := g) (g := f) fun j a b => h j a (by omega), show (((k + -1).toNat : Nat) : Int) = k + -1 by omega, h (k + -1) (by omega) (by omega)]
  have e3 : 8 ^ (11 - (k + -1).toNat) = 8 ^ (11 - ((k + -1).toNat + 1)) * 8 := by
    rw [show 11 - (k + -1).toNat = 11 - ((k + -1).toNat + 1) + 1 by omega, Nat.pow_succ]
  have h3 : (f k + 1) * ((8 ^ (11 - ((k + -1).toNat + 1)) : Nat) : Int) ≤ 6 * ((8 ^ (11 - ((k + -1).toNat + 1)) : Nat) : Int) := Int.mul_le_mul_of_nonneg_right (by omega) (Int.natCast_nonneg _)
  have h4 := rxS_pos (11 - ((k + -1).toNat + 1))
  rw [Int.add_mul (f (k + -1)) 1, Int.one_mul]
  have e4 : ((8 ^ (11 - (k + -1).toNat) : Nat) : Int) = ((8 ^ (11 - ((k + -1).toNat + 1)) : Nat) : Int) * 8 := by
    rw [e3]
    rfl
  rw [e4]
  omega
/-- what a deed's cue and word are -/
theorem rxDeed1 {S : Nat → Int → Int} (h : bx_Inv rxL S) {j : Int} (h0 : 0 ≤ j) (h1 : j < 12) : 0 ≤ S 482 (743 + 3 * j) ∧ S 482 (743 + 3 * j) ≤ 5 := by
  have e : bx_dT rxPl482 (743 + 3 * j) = (0, 0, 5) := bx_dW_ok (show bx_dW rxPl482 743 776 3 = some (0, 0, 5) by decide +kernel) (by omega) (by omega) (by omega)
  exact rx_inv h (p := 482) (j := 743 + 3 * j) (by omega) rxW482 (by omega) (by omega) ((rxT482 _).trans e)
theorem rxDeed2 {S : Nat → Int → Int} (h : bx_Inv rxL S) {j : Int} (h0 : 0 ≤ j) (h1 : j < 12) : 0 ≤ S 482 (744 + 3 * j) ∧ S 482 (744 + 3 * j) ≤ 9 := by
  have e : bx_dT rxPl482 (744 + 3 * j) = (0, 0, 9) := bx_dW_ok (show bx_dW rxPl482 744 777 3 = some (0, 0, 9) by decide +kernel) (by omega) (by omega) (by omega)
  exact rx_inv h (p := 482) (j := 744 + 3 * j) (by omega) rxW482 (by omega) (by omega) ((rxT482 _).trans e)
theorem rxDeed0 {S : Nat → Int → Int} (h : bx_Inv rxL S) {j : Int} (h0 : 0 ≤ j) (h1 : j < 12) : 0 ≤ S 482 (742 + 3 * j) ∧ S 482 (742 + 3 * j) ≤ 3 := by
  have e : bx_dT rxPl482 (742 + 3 * j) = (0, 0, 3) := bx_dW_ok (show bx_dW rxPl482 742 775 3 = some (0, 0, 3) by decide +kernel) (by omega) (by omega) (by omega)
  exact rx_inv h (p := 482) (j := 742 + 3 * j) (by omega) rxW482 (by omega) (by omega) ((rxT482 _).trans e)
theorem rxN6 {S : Nat → Int → Int} (h : bx_Inv rxL S) : 0 ≤ S 482 6 ∧ S 482 6 ≤ 12 := rx_inv h (p := 482) (j := 6) (t := (0, 0, 12)) (by omega) rxW482 (by omega) (by omega) ((rxT482 _).trans (by decide +kernel))
/-- the order of deeds is one of deeds; the last of its row -/
def rxOrd (S : Nat → Int → Int) : Prop := ∀ k : Int, 0 ≤ k → k < S 482 6 → ∃ j : Int, 0 ≤ j ∧ j < 12 ∧ S 512 k = 742 + 3 * j
def rxLast (S : Nat → Int → Int) (k : Int) : Prop := k = S 482 6 - 1 ∨ S 482 (S 512 (k + 1)) ≠ S 482 (S 512 k)
theorem rxOrd_cg {S S_p : Nat → Int → Int} (h : rxOrd S) (h1 : S_p 482 6 = S 482 6) (hn : S 482 6 ≤ 12) (h2 : ∀ k : Int, 0 ≤ k → k < 12 → S_p 512 k = S 512 k) : rxOrd S_p := fun k a b => by
  rw [h1] at b
  rw [h2 k a (by omega)]
  exact h k a b
theorem rxLast_cg {S S_p : Nat → Int → Int} {k : Int} (h1 : S_p 482 = S 482) (h2 : S_p 512 = S 512) : rxLast S_p k = rxLast S k := by
  unfold rxLast
  rw [h1, h2]
