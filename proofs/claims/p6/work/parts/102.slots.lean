/-! SLOTS, for contracts by hand: a row and its copies; kinds of slots -/
theorem rx_sg_mem : ∀ {l : bx_S} {j : Int}, bx_sg l j = (0, 1, 0) ∨ ∃ s ∈ l, s.1 ≤ j ∧ j ≤ s.2.1 ∧ (j - s.1) % s.2.2.1 = 0 ∧ bx_sg l j = s.2.2.2
  | [], _ => Or.inl rfl
  | s :: l, j => by
    unfold bx_sg
    split
    · rename_i h
      exact Or.inr ⟨s, List.mem_cons_self, h.1, h.2.1, h.2.2, rfl⟩
    · rcases rx_sg_mem (l := l) (j := j) with h | ⟨a, h1, h2⟩
      · exact Or.inl h
      · exact Or.inr ⟨a, List.mem_cons_of_mem _ h1, h2⟩
def bx_cov1 (q : bx_Pl) (off lo hi : Int) (s : Int × Int × Int × bx_T) : Bool := decide (s.2.1 < lo) || (decide (hi < s.1) || decide (bx_dW q (s.1 + off) (s.2.1 + off) s.2.2.1 = some s.2.2.2))
theorem bx_cov_ok {L : bx_L} {k : bx_K} {n : Nat} {ss : bx_S} {q : bx_Pl} {off lo hi j v : Int} (h : ss.all (bx_cov1 q off lo hi) = true) (h1 : lo ≤ j) (h2 : j ≤ hi) (hv : bx_okT L (bx_dT (k, n, .inr ss) j) v) : bx_okT L (bx_dT q (j + off)) v := by
  have hv : bx_okT L (bx_sg ss j) v := hv
  rcases rx_sg_mem (l := ss) (j := j) with h3 | ⟨s, h3, h4, h5, h6, h7⟩
  · rw [h3] at hv
    have hv : (1 : Int) ≤ v ∧ v ≤ 0 := hv
    omega
  · rw [h7] at hv
    have h8 := List.all_eq_true.mp h s h3
    unfold bx_cov1 at h8
    rw [Bool.or_eq_true, Bool.or_eq_true, decide_eq_true_eq, decide_eq_true_eq, decide_eq_true_eq] at h8
    rcases h8 with h8 | h8 | h8
    · omega
    · omega
    · rw [bx_dW_ok h8 (j := j + off) (by omega) (by omega) (by rw [show j + off - (s.1 + off) = j - s.1 by omega]; exact h6)]
      exact hv
def bx_ssOf (p : bx_Pl) : bx_S := match p.2.2 with
  | .inl _ => []
  | .inr ss => ss
theorem rxCov1 : (bx_ssOf rxPl482).all (bx_cov1 rxPl483 0 0 6179) = true := by decide +kernel
theorem rxCov2 : (bx_ssOf rxPl482).all (bx_cov1 rxPl483 6180 0 6179) = true := by decide +kernel
theorem rxCov3 : (bx_ssOf rxPl483).all (bx_cov1 rxPl482 0 0 6179) = true := by decide +kernel
theorem rxCov4 : (bx_ssOf rxPl483).all (bx_cov1 rxPl482 (-6180) 6180 12359) = true := by decide +kernel
theorem rxT482 (j : Int) : rxL.2.2.1 482 j = bx_dT rxPl482 j := rfl
theorem rxT483 (j : Int) : rxL.2.2.1 483 j = bx_dT rxPl483 j := rfl
theorem rxW482 : bx_wd (rxL.1 482) = 6180 := rfl
theorem rxW483 : bx_wd (rxL.1 483) = 12360 := rfl
/-- what a slot holds -/
theorem rx_inv {S : Nat → Int → Int} (h : bx_Inv rxL S) {p : Nat} {j : Int} {n : Nat} {t : bx_T} (hp : p < 522) (hw : bx_wd (rxL.1 p) = n) (h0 : 0 ≤ j) (h1 : j < (n : Int)) (ht : rxL.2.2.1 p j = t) : bx_okT rxL t (S p j) := by
  have := h p j.toNat hp (by omega)
  rw [show ((j.toNat : Nat) : Int) = j by omega, ht] at this
  exact this
theorem rxImgT {S : Nat → Int → Int} (h : bx_Inv rxL S) {k i : Int} (hk : 0 ≤ k ∧ k ≤ 1) (hi : 0 ≤ i ∧ i ≤ 6179) : bx_okT rxL (rxL.2.2.1 483 (6180 * k + i)) (S 482 i) := by
  have h1 := rx_inv h (p := 482) (j := i) (by omega) rxW482 hi.1 (by omega) (rxT482 i)
  rw [rxT483]
  rcases (show k = 0 ∨ k = 1 by omega) with rfl | rfl
  · rw [show (6180 : Int) * 0 + i = i + 0 by omega]
    exact bx_cov_ok (k := rxPl482.1) (n := rxPl482.2.1) rxCov1 hi.1 hi.2 h1
  · rw [show (6180 : Int) * 1 + i = i + 6180 by omega]
    exact bx_cov_ok (k := rxPl482.1) (n := rxPl482.2.1) rxCov2 hi.1 hi.2 h1
theorem rxRowT {S : Nat → Int → Int} (h : bx_Inv rxL S) {k i : Int} (hk : 0 ≤ k ∧ k ≤ 1) (hi : 0 ≤ i ∧ i ≤ 6179) : bx_okT rxL (rxL.2.2.1 482 i) (S 483 (6180 * k + i)) := by
  have h1 := rx_inv h (p := 483) (j := 6180 * k + i) (by omega) rxW483 (by omega) (by omega) (rxT483 _)
  rw [rxT482]
  rcases (show k = 0 ∨ k = 1 by omega) with rfl | rfl
  · rw [show (6180 : Int) * 0 + i = i by omega] at h1 ⊢
    have := bx_cov_ok (k := rxPl483.1) (n := rxPl483.2.1) rxCov3 hi.1 hi.2 h1
    rw [Int.add_zero] at this
    exact this
  · rw [show (6180 : Int) * 1 + i = i + 6180 by omega] at h1 ⊢
    have := bx_cov_ok (k := rxPl483.1) (n := rxPl483.2.1) rxCov4 (by omega) (by omega) h1
    rw [show i + 6180 + -6180 = i by omega] at this
    exact this
def rx_clK (k : bx_K) : Bool := match k with
  | .inl (ci, _) => Nat.blt ci 999999
  | .inr (_, _, g) => Nat.blt (1000 + g) 999999
theorem rxClK : rxPs.all (fun l => l.all (fun p => rx_clK p.1)) = true := by decide +kernel
theorem rxHcl (p i : Nat) : (bx_mc (rxL.1 p) i).1 ≠ 999999 := by
  show (bx_mc (match rxPf p with
    | some x => x.1
    | none => .inr (0, 0, 0)) i).1 ≠ 999999
  have key : ∀ k : bx_K, rx_clK k = true → (bx_mc k i).1 ≠ 999999 := fun k hk => by
    match k, hk with
    | .inl (ci, fs), hk =>
      have hk : Nat.blt ci 999999 = true := hk
      have := Nat.le_of_ble_eq_true hk
      show ci ≠ 999999
      omega
    | .inr (a, b, g), hk =>
      have hk : Nat.blt (1000 + g) 999999 = true := hk
      have := Nat.le_of_ble_eq_true hk
      show 1000 + g ≠ 999999
      omega
  split
  · rename_i x hx
    unfold rxPf at hx
    split at hx
    · rename_i l hl
      exact key _ (List.all_eq_true.mp (List.all_eq_true.mp rxClK l (rx_nth_mem hl)) x (rx_nth_mem hx))
    · cases hx
  · exact key _ rfl
