/-! WHAT a call left as it was, for contracts by hand -/
theorem rx_havR {S T : Nat → Int → Int} {c f : Nat} (v : ∀ (p i : Nat), p < rxL.2.1 → i < bx_wd (rxL.1 p) → bx_mc (rxL.1 p) i ≠ (c, f) → T p (i : Int) = S p (i : Int)) {p tc n g : Nat} {j : Int} (hk : rxL.1 p = .inr (tc, n, g)) (hp : p < 522) (h : 1000 + g ≠ c) (h0 : 0 ≤ j) (hj : j < (n : Int)) : T p j = S p j := by
  have := v p j.toNat hp (by rw [hk]; show j.toNat < n; omega) (by
    rw [hk]
    intro q
    exact h (congrArg Prod.fst q))
  rw [show ((j.toNat : Nat) : Int) = j by omega] at this
  exact this
theorem rx_cnt_all {f : Int → Int} : ∀ {n : Nat}, (∀ x : Int, 0 ≤ x → x < (n : Int) → f x ≠ -1) → rx_cnt f n = n
  | 0, _ => rfl
  | n + 1, h => by
    unfold rx_cnt
    rw [rx_cnt_all (n := n) fun x h1 h2 => h x h1 (by omega), if_neg (h (n : Int) (by omega) (by omega))]
/-- deeds of rows before r, and of row r before k -/
def rxDf (S : Nat → Int → Int) (r k x : Int) : Int := if S 482 (742 + 3 * x) < r ∨ (S 482 (742 + 3 * x) = r ∧ x < k) then 0 else -1
