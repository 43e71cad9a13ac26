/-! MARKS of a row, counted; ranks of what leads to what: for contracts by hand -/
def rx_cnt (f : Int → Int) : Nat → Nat
  | 0 => 0
  | n + 1 => rx_cnt f n + (if f (n : Int) = -1 then 0 else 1)
theorem rx_cnt_le {f : Int → Int} : ∀ {n : Nat}, rx_cnt f n ≤ n
  | 0 => Nat.le_refl _
  | n + 1 => by
    have := rx_cnt_le (f := f) (n := n)
    unfold rx_cnt
    split <;> omega
theorem rx_cnt_lt {f : Int → Int} {x : Int} : ∀ {n : Nat}, 0 ≤ x → x < (n : Int) → f x = -1 → rx_cnt f n < n
  | 0, h0, h1, _ => by omega
  | n + 1, h0, h1, h2 => by
    unfold rx_cnt
    by_cases h : x = (n : Int)
    · subst h
      rw [if_pos h2]
      have := rx_cnt_le (f := f) (n := n)
      omega
    · have := rx_cnt_lt (n := n) h0 (by omega) h2
      split <;> omega
theorem rx_cnt_congr {f g : Int → Int} : ∀ {n : Nat}, (∀ x : Int, 0 ≤ x → x < (n : Int) → f x = g x) → rx_cnt f n = rx_cnt g n
  | 0, _ => rfl
  | n + 1, h => by
    unfold rx_cnt
    rw [rx_cnt_congr (n := n) fun x h1 h2 => h x h1 (by omega), h (n : Int) (by omega) (by omega)]
theorem rx_cnt_upd {f g : Int → Int} {x : Int} : ∀ {n : Nat}, 0 ≤ x → x < (n : Int) → f x = -1 → g x ≠ -1 → (∀ y : Int, y ≠ x → g y = f y) → rx_cnt g n = rx_cnt f n + 1
  | 0, h0, h1, _, _, _ => by omega
  | n + 1, h0, h1, h2, h3, h4 => by
    unfold rx_cnt
    by_cases h : x = (n : Int)
    · subst h
      rw [if_pos h2, if_neg h3, rx_cnt_congr (f := g) (g := f) fun y h5 h6 => h4 y (by omega)]
    · rw [rx_cnt_upd (n := n) h0 (by omega) h2 h3 h4, h4 (n : Int) (by omega)]
      omega
theorem rx_cnt_zero {f : Int → Int} : ∀ {n : Nat}, (∀ x : Int, 0 ≤ x → x < (n : Int) → f x = -1) → rx_cnt f n = 0
  | 0, _ => rfl
  | n + 1, h => by
    unfold rx_cnt
    rw [rx_cnt_zero (n := n) fun x h1 h2 => h x h1 (by omega), if_pos (h (n : Int) (by omega) (by omega))]
/-- marked places lead on, each to one of a lower rank; ranks lie below m -/
def rx_rk (f : Int → Int) (N m : Int) : Prop := ∃ ρ : Int → Nat, ∀ x : Int, 0 ≤ x → x < N → f x ≠ -1 → (ρ x : Int) < m ∧ 0 ≤ f x ∧ f x < N ∧ f (f x) ≠ -1 ∧ (f x ≠ x → ρ (f x) < ρ x)
theorem rx_rk_congr {f g : Int → Int} {N m : Int} (h : rx_rk f N m) (hg : ∀ x : Int, 0 ≤ x → x < N → g x = f x) : rx_rk g N m := by
  obtain ⟨ρ, h⟩ := h
  refine ⟨ρ, fun x h0 h1 h2 => ?_⟩
  rw [hg x h0 h1] at h2
  obtain ⟨a1, a2, a3, a4, a5⟩ := h x h0 h1 h2
  rw [hg x h0 h1, hg (f x) a2 a3]
  exact ⟨a1, a2, a3, a4, a5⟩
theorem rx_rk_one {f : Int → Int} {N x : Int} (h0 : 0 ≤ x) (h1 : x < N) (hx : f x = x) (hf : ∀ y : Int, 0 ≤ y → y < N → y ≠ x → f y = -1) : rx_rk f N 1 := by
  refine ⟨fun _ => 0, fun y g0 g1 g2 => ?_⟩
  have : y = x := by
    by_cases h : y = x
    · exact h
    · exact absurd (hf y g0 g1 h) g2
  subst this
  refine ⟨by show ((0 : Nat) : Int) < 1; omega, by omega, by omega, by rw [hx]; exact g2, fun h => absurd hx h⟩
theorem rx_rk_upd {f g : Int → Int} {N m x y : Int} (h : rx_rk f N m) (y0 : 0 ≤ y) (y1 : y < N) (hy : f y ≠ -1) (hx : f x = -1) (hg : g x = y) (ho : ∀ z : Int, z ≠ x → g z = f z) : rx_rk g N (m + 1) := by
  obtain ⟨ρ, h⟩ := h
  have hm := (h y y0 y1 hy).1
  have hyx : y ≠ x := fun q => by
    subst q
    exact hy hx
  refine ⟨fun z => if z = x then m.toNat else ρ z, fun z h0 h1 h2 => ?_⟩
  by_cases hz : z = x
  · subst hz
    dsimp only
    rw [if_pos rfl, hg, if_neg hyx, ho y hyx]
    exact ⟨by omega, y0, y1, hy, fun _ => by omega⟩
  · rw [ho z hz] at h2 ⊢
    obtain ⟨a1, a2, a3, a4, a5⟩ := h z h0 h1 h2
    have hfz : f z ≠ x := fun q => by
      rw [q] at a4
      exact a4 hx
    dsimp only
    rw [if_neg hz, if_neg hfz, ho (f z) hfz]
    exact ⟨by omega, a2, a3, a4, a5⟩
theorem rx_rk_mono {f : Int → Int} {N m m' : Int} (h : rx_rk f N m) (hm : m ≤ m') : rx_rk f N m' := by
  obtain ⟨ρ, h⟩ := h
  refine ⟨ρ, fun x h0 h1 h2 => ?_⟩
  have := h x h0 h1 h2
  exact ⟨by omega, this.2⟩
