/-! A REFLECTED MACHINE, part 2: what an operation makes of numbers -/
def rx_op (o : Nat) (x y : Int32) : Int32 := match o with
  | 0 => x + y
  | 1 => x - y
  | 2 => x * y
  | 3 => x / y
  | 4 => x - x / y * y
  | 5 => x &&& y
  | 6 => x ||| y
  | 7 => x ^^^ y
  | 8 => x <<< (y &&& 31)
  | 9 => x >>> (y &&& 31)
  | _ => (x.toUInt32 >>> (y.toUInt32 &&& Int32.toUInt32 31)).toInt32
/-- bounds of an answer, by those of what it is made of -/
def rx_opb (o : Nat) (al ah bl bh : Int) : Int × Int := match o with
  | 0 => if -2147483648 ≤ al + bl ∧ ah + bh ≤ 2147483647 then (al + bl, ah + bh) else (-2147483648, 2147483647)
  | 1 => if -2147483648 ≤ al - bh ∧ ah - bl ≤ 2147483647 then (al - bh, ah - bl) else (-2147483648, 2147483647)
  | 2 => if 0 ≤ al ∧ 0 ≤ bl ∧ ah * bh ≤ 2147483647 then (0, ah * bh)
    else if al < 0 ∧ 0 ≤ bl ∧ -2147483648 ≤ al * bh ∧ ah * bh ≤ 2147483647 then (al * bh, if 0 ≤ ah then ah * bh else 0)
    else if bl < 0 ∧ 0 ≤ al ∧ -2147483648 ≤ bl * ah ∧ bh * ah ≤ 2147483647 then (bl * ah, if 0 ≤ bh then bh * ah else 0)
    else (-2147483648, 2147483647)
  | 3 => if 0 ≤ al ∧ 0 < bl then (0, ah / bl) else (-2147483648, 2147483647)
  | 4 => if 0 < bl then (if 0 ≤ al then (0, bh - 1) else (1 - bh, bh - 1)) else (-2147483648, 2147483647)
  | 5 => if 0 ≤ bl then (0, if 0 ≤ al ∧ ah ≤ bh then ah else bh) else if 0 ≤ al then (0, ah) else (-2147483648, 2147483647)
  | 6 => if 0 ≤ al ∧ 0 ≤ bl then (0, ((2 ^ (Nat.log2 (if ah ≤ bh then bh else ah).toNat + 1) : Nat) : Int) - 1) else (-2147483648, 2147483647)
  | 7 => if 0 ≤ al ∧ 0 ≤ bl then (0, ((2 ^ (Nat.log2 (if ah ≤ bh then bh else ah).toNat + 1) : Nat) : Int) - 1) else (-2147483648, 2147483647)
  | 8 => if 0 ≤ al ∧ 0 ≤ bl ∧ bh ≤ 31 ∧ ah * ((2 ^ bh.toNat : Nat) : Int) ≤ 2147483647 then (al, ah * ((2 ^ bh.toNat : Nat) : Int)) else (-2147483648, 2147483647)
  | 9 => if 0 ≤ al then (0, ah) else (-2147483648, 2147483647)
  | _ => (-2147483648, 2147483647)
theorem rx_mulb0 {a b ah bh : Int} (h0 : 0 ≤ a) (h1 : a ≤ ah) (h2 : 0 ≤ b) (h3 : b ≤ bh) : 0 ≤ a * b ∧ a * b ≤ ah * bh :=
  ⟨Int.mul_nonneg h0 h2, Int.le_trans (Int.mul_le_mul_of_nonneg_right h1 h2) (Int.mul_le_mul_of_nonneg_left h3 (Int.le_trans h0 h1))⟩
theorem rx_bmod0 {z : Int} (h1 : -2147483648 ≤ z) (h2 : z ≤ 2147483647) : z.bmod (2 ^ 32) = z := by
  simp only [Int.bmod]
  split <;> omega
theorem rx_ofmsb {w : Int32} (h : w.toBitVec.msb = false) : w.toInt = (w.toBitVec.toNat : Int) := BitVec.toInt_eq_toNat_of_msb h
theorem rx_nn {x : Int32} (h : 0 ≤ x.toInt) : x.toBitVec.msb = false ∧ x.toInt = (x.toBitVec.toNat : Int) := by
  have h1 : x.toBitVec.msb = false := by
    rw [BitVec.msb_eq_toInt]
    exact decide_eq_false (Int.not_lt.mpr h)
  exact ⟨h1, rx_ofmsb h1⟩
theorem rx_andb {x y : Int32} (h : 0 ≤ x.toInt) : 0 ≤ (x &&& y).toInt ∧ (x &&& y).toInt ≤ x.toInt := by
  obtain ⟨h1, h2⟩ := rx_nn h
  have h3 : (x &&& y).toBitVec.msb = false := by
    rw [Int32.toBitVec_and, BitVec.msb_and, h1, Bool.false_and]
  rw [rx_ofmsb h3, h2, Int32.toBitVec_and, BitVec.toNat_and]
  exact ⟨Int.natCast_nonneg _, Int.ofNat_le.mpr Nat.and_le_left⟩
theorem rx_andb2 {x y : Int32} (h : 0 ≤ y.toInt) : 0 ≤ (x &&& y).toInt ∧ (x &&& y).toInt ≤ y.toInt := by
  obtain ⟨h1, h2⟩ := rx_nn h
  have h3 : (x &&& y).toBitVec.msb = false := by
    rw [Int32.toBitVec_and, BitVec.msb_and, h1, Bool.and_false]
  rw [rx_ofmsb h3, h2, Int32.toBitVec_and, BitVec.toNat_and]
  exact ⟨Int.natCast_nonneg _, Int.ofNat_le.mpr Nat.and_le_right⟩
theorem rx_orb {x y : Int32} {n : Nat} (hx : 0 ≤ x.toInt) (hy : 0 ≤ y.toInt) (h1 : x.toInt < ((2 ^ n : Nat) : Int)) (h2 : y.toInt < ((2 ^ n : Nat) : Int)) : (0 ≤ (x ||| y).toInt ∧ (x ||| y).toInt < ((2 ^ n : Nat) : Int)) ∧ 0 ≤ (x ^^^ y).toInt ∧ (x ^^^ y).toInt < ((2 ^ n : Nat) : Int) := by
  obtain ⟨a1, a2⟩ := rx_nn hx
  obtain ⟨b1, b2⟩ := rx_nn hy
  have h3 : (x ||| y).toBitVec.msb = false := by
    rw [Int32.toBitVec_or, BitVec.msb_or, a1, b1]
    rfl
  have h4 : (x ^^^ y).toBitVec.msb = false := by
    rw [Int32.toBitVec_xor, BitVec.msb_xor, a1, b1]
    rfl
  rw [a2] at h1
  rw [b2] at h2
  rw [rx_ofmsb h3, rx_ofmsb h4, Int32.toBitVec_or, Int32.toBitVec_xor, BitVec.toNat_or, BitVec.toNat_xor]
  exact ⟨⟨Int.natCast_nonneg _, Int.ofNat_lt.mpr (Nat.or_lt_two_pow (Int.ofNat_lt.mp h1) (Int.ofNat_lt.mp h2))⟩, Int.natCast_nonneg _, Int.ofNat_lt.mpr (Nat.xor_lt_two_pow (Int.ofNat_lt.mp h1) (Int.ofNat_lt.mp h2))⟩
theorem rx_log2 {x ah bh : Int} (h : x ≤ ah ∨ x ≤ bh) : x < ((2 ^ (Nat.log2 (if ah ≤ bh then bh else ah).toNat + 1) : Nat) : Int) := by
  have h1 : x ≤ ((if ah ≤ bh then bh else ah).toNat : Int) := by
    split <;> omega
  exact Int.lt_of_le_of_lt h1 (Int.ofNat_lt.mpr Nat.lt_log2_self)
theorem rx_shn : ∀ k : Nat, k < 32 → ((Int32.ofInt (k : Int) &&& 31).toBitVec.smod 32).toNat = k := by decide +kernel
theorem rx_shlb {x y : Int32} {al ah bh : Int} (h1 : 0 ≤ al) (h2 : al ≤ x.toInt) (h3 : x.toInt ≤ ah) (h4 : 0 ≤ y.toInt) (h5 : y.toInt ≤ bh) (h6 : bh ≤ 31) (h7 : ah * ((2 ^ bh.toNat : Nat) : Int) ≤ 2147483647) : al ≤ (x <<< (y &&& 31)).toInt ∧ (x <<< (y &&& 31)).toInt ≤ ah * ((2 ^ bh.toNat : Nat) : Int) := by
  obtain ⟨a1, a2⟩ := rx_nn (x := x) (by omega)
  have hk : y = Int32.ofInt ((y.toInt.toNat : Nat) : Int) := by
    rw [Int.toNat_of_nonneg h4, Int32.ofInt_toInt]
  have hn := rx_shn y.toInt.toNat (by omega)
  rw [← hk] at hn
  have e : (x <<< (y &&& 31)).toInt = (x.toInt * ((2 ^ y.toInt.toNat : Nat) : Int)).bmod (2 ^ 32) := by
    rw [← Int32.toInt_toBitVec, Int32.toBitVec_shiftLeft, BitVec.shiftLeft_eq', hn, BitVec.toInt_shiftLeft, Nat.shiftLeft_eq, Int.natCast_mul, a2]
  have hp : ((2 ^ y.toInt.toNat : Nat) : Int) ≤ ((2 ^ bh.toNat : Nat) : Int) := Int.ofNat_le.mpr (Nat.pow_le_pow_right (by decide) (by omega))
  have hp1 : (1 : Int) ≤ ((2 ^ y.toInt.toNat : Nat) : Int) := Int.ofNat_le.mpr Nat.one_le_two_pow
  obtain ⟨g1, g2⟩ := rx_mulb0 (a := x.toInt) (b := ((2 ^ y.toInt.toNat : Nat) : Int)) (by omega) h3 (by omega) hp
  have g3 : x.toInt ≤ x.toInt * ((2 ^ y.toInt.toNat : Nat) : Int) := by
    have := Int.mul_le_mul_of_nonneg_left hp1 (c := x.toInt) (by omega)
    rw [Int.mul_one] at this
    exact this
  rw [e, rx_bmod0 (by omega) (by omega)]
  exact ⟨by omega, g2⟩
theorem rx_shrb {x y : Int32} (h : 0 ≤ x.toInt) : 0 ≤ (x >>> (y &&& 31)).toInt ∧ (x >>> (y &&& 31)).toInt ≤ x.toInt := by
  rw [← Int32.toInt_toBitVec (x >>> (y &&& 31)), Int32.toBitVec_shiftRight]
  unfold BitVec.sshiftRight'
  rw [BitVec.toInt_sshiftRight, Int32.toInt_toBitVec, Int.shiftRight_eq_div_pow]
  exact ⟨Int.ediv_nonneg h (Int.natCast_nonneg _), Int.ediv_le_self _ h⟩
theorem rx_divb {x y ah bl : Int} (h1 : x ≤ ah) (h2 : 0 < bl) (h3 : bl ≤ y) (h0 : 0 ≤ ah) : x / y ≤ ah / bl := by
  refine Int.le_trans (Int.ediv_le_ediv (by omega) h1) (Int.le_ediv_of_mul_le h2 ?_)
  refine Int.le_trans (Int.mul_le_mul_of_nonneg_left h3 (Int.ediv_nonneg h0 (by omega))) (Int.ediv_mul_le ah (by omega))
theorem rx_mulb {a b ah bh : Int} (h0 : 0 ≤ a) (h1 : a ≤ ah) (h2 : 0 ≤ b) (h3 : b ≤ bh) : 0 ≤ a * b ∧ a * b ≤ ah * bh :=
  ⟨Int.mul_nonneg h0 h2, Int.le_trans (Int.mul_le_mul_of_nonneg_right h1 h2) (Int.mul_le_mul_of_nonneg_left h3 (Int.le_trans h0 h1))⟩
theorem rx_mulbn {x y al ah bh : Int} (h0 : al < 0) (h1 : al ≤ x) (h2 : x ≤ ah) (h3 : 0 ≤ y) (h4 : y ≤ bh) : al * bh ≤ x * y ∧ x * y ≤ (if 0 ≤ ah then ah * bh else 0) := by
  have e1 : al * y ≤ x * y := Int.mul_le_mul_of_nonneg_right h1 h3
  have e2 : al * bh ≤ al * y := Int.mul_le_mul_of_nonpos_left (by omega) h4
  have e3 : x * y ≤ ah * y := Int.mul_le_mul_of_nonneg_right h2 h3
  refine ⟨by omega, ?_⟩
  split
  · rename_i h
    exact Int.le_trans e3 (Int.mul_le_mul_of_nonneg_left h4 h)
  · have e4 : ah * y ≤ 0 := Int.mul_nonpos_of_nonpos_of_nonneg (by omega) h3
    omega
theorem rx_bmod {z : Int} (h1 : -2147483648 ≤ z) (h2 : z ≤ 2147483647) : z.bmod (2 ^ 32) = z := by
  simp only [Int.bmod]
  split <;> omega
theorem rx_opb_ok {o : Nat} {x y : Int32} {al ah bl bh : Int} (h1 : al ≤ x.toInt) (h2 : x.toInt ≤ ah) (h3 : bl ≤ y.toInt) (h4 : y.toInt ≤ bh) : (rx_opb o al ah bl bh).1 ≤ (rx_op o x y).toInt ∧ (rx_op o x y).toInt ≤ (rx_opb o al ah bl bh).2 := by
  have full : ∀ w : Int32, ((-2147483648, 2147483647) : Int × Int).1 ≤ w.toInt ∧ w.toInt ≤ ((-2147483648, 2147483647) : Int × Int).2 := fun w => rx_b32 w
  match o with
  | 0 =>
    show (if _ then _ else _ : Int × Int).1 ≤ (x + y).toInt ∧ (x + y).toInt ≤ (if _ then _ else _ : Int × Int).2
    split
    · rename_i h
      have e : (x + y).toInt = x.toInt + y.toInt := by
        rw [Int32.toInt_add]
        exact rx_bmod (by omega) (by omega)
      rw [e]
      exact ⟨by dsimp only; omega, by dsimp only; omega⟩
    · exact full _
  | 1 =>
    show (if _ then _ else _ : Int × Int).1 ≤ (x - y).toInt ∧ (x - y).toInt ≤ (if _ then _ else _ : Int × Int).2
    split
    · rename_i h
      have e : (x - y).toInt = x.toInt - y.toInt := by
        rw [Int32.toInt_sub]
        exact rx_bmod (by omega) (by omega)
      rw [e]
      exact ⟨by dsimp only; omega, by dsimp only; omega⟩
    · exact full _
  | 2 =>
    show (if _ then _ else if _ then _ else if _ then _ else _ : Int × Int).1 ≤ (x * y).toInt ∧ (x * y).toInt ≤ (if _ then _ else if _ then _ else if _ then _ else _ : Int × Int).2
    split
    · rename_i h
      obtain ⟨g1, g2⟩ := rx_mulb (a := x.toInt) (b := y.toInt) (by omega) h2 (by omega) h4
      have e : (x * y).toInt = x.toInt * y.toInt := by
        rw [Int32.toInt_mul]
        exact rx_bmod (by omega) (by omega)
      rw [e]
      exact ⟨g1, g2⟩
    · split
      · rename_i h
        obtain ⟨k1, k2, k3, k4⟩ := h
        obtain ⟨g1, g2⟩ := rx_mulbn (x := x.toInt) (y := y.toInt) k1 h1 h2 (by omega) h4
        have g3 : (if 0 ≤ ah then ah * bh else 0) ≤ 2147483647 := by split <;> omega
        have e : (x * y).toInt = x.toInt * y.toInt := by
          rw [Int32.toInt_mul]
          exact rx_bmod (by omega) (by omega)
        rw [e]
        exact ⟨g1, g2⟩
      · split
        · rename_i h
          obtain ⟨k1, k2, k3, k4⟩ := h
          obtain ⟨g1, g2⟩ := rx_mulbn (x := y.toInt) (y := x.toInt) k1 h3 h4 (by omega) h2
          have g3 : (if 0 ≤ bh then bh * ah else 0) ≤ 2147483647 := by split <;> omega
          rw [Int.mul_comm y.toInt] at g1 g2
          have e : (x * y).toInt = x.toInt * y.toInt := by
            rw [Int32.toInt_mul]
            exact rx_bmod (by omega) (by omega)
          rw [e]
          exact ⟨g1, g2⟩
        · exact full _
  | 3 =>
    show (if _ then _ else _ : Int × Int).1 ≤ (x / y).toInt ∧ (x / y).toInt ≤ (if _ then _ else _ : Int × Int).2
    split
    · rename_i h
      have e : (x / y).toInt = x.toInt.tdiv y.toInt := by
        rw [Int32.toInt_div]
        refine rx_bmod ?_ ?_
        · have := Int.tdiv_nonneg (a := x.toInt) (b := y.toInt) (by omega) (by omega)
          omega
        · have := Int.tdiv_le_self (a := x.toInt) y.toInt (by omega)
          have := rx_b32 x
          omega
      rw [e]
      have g1 := Int.tdiv_nonneg (a := x.toInt) (b := y.toInt) (by omega) (by omega)
      refine ⟨g1, ?_⟩
      rw [Int.tdiv_eq_ediv_of_nonneg (by omega)]
      exact rx_divb h2 h.2 h3 (by omega)
    · exact full _
  | 4 =>
    show (if _ then _ else _ : Int × Int).1 ≤ (x - x / y * y).toInt ∧ (x - x / y * y).toInt ≤ (if _ then _ else _ : Int × Int).2
    rw [rem_toInt]
    split
    · rename_i h
      obtain ⟨g1, g2⟩ := tmod_bounds (a := x.toInt) (M := y.toInt) (by omega)
      split
      · rename_i h5
        have g3 := Int.tmod_nonneg (a := x.toInt) y.toInt (by omega)
        exact ⟨by dsimp only; omega, by dsimp only; omega⟩
      · exact ⟨by dsimp only; omega, by dsimp only; omega⟩
    · have := full (x - x / y * y)
      rw [rem_toInt] at this
      exact this
  | 5 =>
    show (if _ then _ else _ : Int × Int).1 ≤ (x &&& y).toInt ∧ (x &&& y).toInt ≤ (if _ then _ else _ : Int × Int).2
    split
    · obtain ⟨g1, g2⟩ := rx_andb2 (x := x) (y := y) (by omega)
      refine ⟨g1, ?_⟩
      dsimp only
      split
      · obtain ⟨g3, g4⟩ := rx_andb (x := x) (y := y) (by omega)
        omega
      · omega
    · split
      · obtain ⟨g3, g4⟩ := rx_andb (x := x) (y := y) (by omega)
        exact ⟨g3, by dsimp only; omega⟩
      · exact full _
  | 6 =>
    show (if _ then _ else _ : Int × Int).1 ≤ (x ||| y).toInt ∧ (x ||| y).toInt ≤ (if _ then _ else _ : Int × Int).2
    split
    · obtain ⟨⟨g1, g2⟩, -⟩ := rx_orb (x := x) (y := y) (by omega) (by omega) (rx_log2 (ah := ah) (bh := bh) (Or.inl h2)) (rx_log2 (ah := ah) (bh := bh) (Or.inr h4))
      exact ⟨g1, Int.le_sub_one_of_lt g2⟩
    · exact full _
  | 7 =>
    show (if _ then _ else _ : Int × Int).1 ≤ (x ^^^ y).toInt ∧ (x ^^^ y).toInt ≤ (if _ then _ else _ : Int × Int).2
    split
    · obtain ⟨-, g1, g2⟩ := rx_orb (x := x) (y := y) (by omega) (by omega) (rx_log2 (ah := ah) (bh := bh) (Or.inl h2)) (rx_log2 (ah := ah) (bh := bh) (Or.inr h4))
      exact ⟨g1, Int.le_sub_one_of_lt g2⟩
    · exact full _
  | 8 =>
    show (if _ then _ else _ : Int × Int).1 ≤ (x <<< (y &&& 31)).toInt ∧ (x <<< (y &&& 31)).toInt ≤ (if _ then _ else _ : Int × Int).2
    split
    · rename_i h
      exact rx_shlb h.1 h1 h2 (by omega) h4 h.2.2.1 h.2.2.2
    · exact full _
  | 9 =>
    show (if _ then _ else _ : Int × Int).1 ≤ (x >>> (y &&& 31)).toInt ∧ (x >>> (y &&& 31)).toInt ≤ (if _ then _ else _ : Int × Int).2
    split
    · obtain ⟨g1, g2⟩ := rx_shrb (x := x) (y := y) (by omega)
      exact ⟨g1, by dsimp only; omega⟩
    · exact full _
  | n + 10 => exact full _
/-- an answer: known, a symbol with an offset, or a new symbol -/
def rx_lit (e : rx_E) : Bool := e.1 == 0
theorem rx_lit_ok {I : rx_I} {e : rx_E} {r : Nat → Int} (h : rx_lit e = true) (hs : rx_sat I r) : rx_ev r e = e.2 := by
  unfold rx_lit at h
  rw [beq_iff_eq] at h
  unfold rx_ev
  rw [h, hs.1]
  omega
theorem rx_ev0 {I : rx_I} {r : Nat → Int} (hs : rx_sat I r) (z : Int) : rx_ev r (0, z) = z := by
  unfold rx_ev
  rw [hs.1]
  omega
def rx_bin1 (o : Nat) (I : rx_I) (a b : rx_E) : Option (rx_I × rx_E) :=
  if rx_lit a && rx_lit b then some (I, 0, (rx_op o (Int32.ofInt a.2) (Int32.ofInt b.2)).toInt)
  else match rx_bi I a, rx_bi I b with
    | some (al, ah), some (bl, bh) =>
      if o = 0 ∧ rx_lit b = true ∧ -2147483648 ≤ al + b.2 ∧ ah + b.2 ≤ 2147483647 then some (I, a.1, a.2 + b.2)
      else if o = 0 ∧ rx_lit a = true ∧ -2147483648 ≤ bl + a.2 ∧ bh + a.2 ≤ 2147483647 then some (I, b.1, b.2 + a.2)
      else if o = 1 ∧ rx_lit b = true ∧ -2147483648 ≤ al - b.2 ∧ ah - b.2 ≤ 2147483647 then some (I, a.1, a.2 - b.2)
      else some (I ++ [rx_opb o al ah bl bh], I.length, 0)
    | _, _ => none
/-- an int comes as a new symbol -/
theorem rx_fresh {I : rx_I} {r : Nat → Int} {lo hi : Int} (x : Int32) (h : rx_sat I r) (h1 : lo ≤ x.toInt) (h2 : x.toInt ≤ hi) : ∃ r_p : Nat → Int, rx_same I.length r r_p ∧ rx_sat (I ++ [(lo, hi)]) r_p ∧ Int32.ofInt (rx_ev r_p (I.length, 0)) = x := by
  refine ⟨rx_up r I.length x.toInt, rx_up_same, rx_sat_up h h1 h2, ?_⟩
  unfold rx_ev
  rw [rx_up_self, Int.add_zero, Int32.ofInt_toInt]
theorem rx_freshL {I : rx_I} {r : Nat → Int} {lo hi : Int} (x : Int64) (h : rx_sat I r) (h1 : lo ≤ x.toInt) (h2 : x.toInt ≤ hi) : ∃ r_p : Nat → Int, rx_same I.length r r_p ∧ rx_sat (I ++ [(lo, hi)]) r_p ∧ Int64.ofInt (rx_ev r_p (I.length, 0)) = x := by
  refine ⟨rx_up r I.length x.toInt, rx_up_same, rx_sat_up h h1 h2, ?_⟩
  unfold rx_ev
  rw [rx_up_self, Int.add_zero, Int64.ofInt_toInt]
theorem rx_bin1_ok {o : Nat} {I I2 : rx_I} {a b e : rx_E} {r : Nat → Int} (h : rx_sat I r) (hb : rx_bin1 o I a b = some (I2, e)) : ∃ r_p : Nat → Int, rx_same I.length r r_p ∧ rx_sat I2 r_p ∧ Int32.ofInt (rx_ev r_p e) = rx_op o (Int32.ofInt (rx_ev r a)) (Int32.ofInt (rx_ev r b)) ∧ I.length ≤ I2.length ∧ e.1 < I2.length := by
  unfold rx_bin1 at hb
  split at hb
  · rename_i hc
    rw [Bool.and_eq_true] at hc
    have e1 := rx_lit_ok hc.1 h
    have e3 := rx_lit_ok hc.2 h
    cases hb
    refine ⟨r, rx_same.rf, h, ?_, Nat.le_refl _, rx_pos h⟩
    rw [rx_ev0 h, Int32.ofInt_toInt, e1, e3]
  · split at hb
    · rename_i al ah bl bh ha hbb
      obtain ⟨a1, a2, a3, a4⟩ := rx_bi_ok h ha
      obtain ⟨b1, b2, b3, b4⟩ := rx_bi_ok h hbb
      split at hb
      · rename_i hc
        obtain ⟨rfl, hc2, hc3, hc4⟩ := hc
        have e1 := rx_lit_ok hc2 h
        cases hb
        refine ⟨r, rx_same.rf, h, ?_, Nat.le_refl _, a4⟩
        show Int32.ofInt (rx_ev r (a.1, a.2 + b.2)) = Int32.ofInt (rx_ev r a) + Int32.ofInt (rx_ev r b)
        rw [← Int32.ofInt_add, e1]
        congr 1
        unfold rx_ev
        dsimp only
        omega
      · split at hb
        · rename_i hc
          obtain ⟨rfl, hc2, hc3, hc4⟩ := hc
          have e1 := rx_lit_ok hc2 h
          cases hb
          refine ⟨r, rx_same.rf, h, ?_, Nat.le_refl _, b4⟩
          show Int32.ofInt (rx_ev r (b.1, b.2 + a.2)) = Int32.ofInt (rx_ev r a) + Int32.ofInt (rx_ev r b)
          rw [← Int32.ofInt_add, e1]
          congr 1
          unfold rx_ev
          dsimp only
          omega
        · split at hb
          · rename_i hc
            obtain ⟨rfl, hc2, hc3, hc4⟩ := hc
            have e1 := rx_lit_ok hc2 h
            cases hb
            refine ⟨r, rx_same.rf, h, ?_, Nat.le_refl _, a4⟩
            show Int32.ofInt (rx_ev r (a.1, a.2 - b.2)) = Int32.ofInt (rx_ev r a) - Int32.ofInt (rx_ev r b)
            rw [← Int32.ofInt_sub, e1]
            congr 1
            unfold rx_ev
            dsimp only
            omega
          · cases hb
            obtain ⟨g1, g2⟩ := rx_opb_ok (o := o) (x := Int32.ofInt (rx_ev r a)) (y := Int32.ofInt (rx_ev r b)) (al := al) (ah := ah) (bl := bl) (bh := bh) (by rw [a3]; exact a1) (by rw [a3]; exact a2) (by rw [b3]; exact b1) (by rw [b3]; exact b2)
            obtain ⟨r_p, q1, q2, q3⟩ := rx_fresh (lo := (rx_opb o al ah bl bh).1) (hi := (rx_opb o al ah bl bh).2) (rx_op o (Int32.ofInt (rx_ev r a)) (Int32.ofInt (rx_ev r b))) h g1 g2
            exact ⟨r_p, q1, q2, q3, by simp, by simp⟩
    · cases hb
def rx_bin (o : Nat) (I : rx_I) (a b : rx_E) : Option (rx_I × rx_E) := rx_bin1 o I (rx_nm I a) (rx_nm I b)
theorem rx_bin_ok {o : Nat} {I I2 : rx_I} {a b e : rx_E} {r : Nat → Int} (h : rx_sat I r) (hb : rx_bin o I a b = some (I2, e)) : ∃ r_p : Nat → Int, rx_same I.length r r_p ∧ rx_sat I2 r_p ∧ Int32.ofInt (rx_ev r_p e) = rx_op o (Int32.ofInt (rx_ev r a)) (Int32.ofInt (rx_ev r b)) ∧ I.length ≤ I2.length ∧ e.1 < I2.length := by
  have := rx_bin1_ok h hb
  rw [(rx_nm_ok (e := a) h).1, (rx_nm_ok (e := b) h).1] at this
  exact this
/-- longs: the same, with fewer bounds -/
def rx_opL (o : Nat) (x y : Int64) : Int64 := match o with
  | 0 => x + y
  | 1 => x - y
  | 2 => x * y
  | 3 => x / y
  | 4 => x - x / y * y
  | 5 => x &&& y
  | 6 => x ||| y
  | _ => x ^^^ y
def rx_opLb (o : Nat) (al ah bl bh : Int) : Int × Int := match o with
  | 0 => if -9223372036854775808 ≤ al + bl ∧ ah + bh ≤ 9223372036854775807 then (al + bl, ah + bh) else (-9223372036854775808, 9223372036854775807)
  | 1 => if -9223372036854775808 ≤ al - bh ∧ ah - bl ≤ 9223372036854775807 then (al - bh, ah - bl) else (-9223372036854775808, 9223372036854775807)
  | 2 => if 0 ≤ al ∧ 0 ≤ bl ∧ ah * bh ≤ 9223372036854775807 then (0, ah * bh) else (-9223372036854775808, 9223372036854775807)
  | 4 => if 0 ≤ al ∧ 0 < bl then (0, bh - 1) else (-9223372036854775808, 9223372036854775807)
  | _ => (-9223372036854775808, 9223372036854775807)
theorem rx_bmodL {z : Int} (h1 : -9223372036854775808 ≤ z) (h2 : z ≤ 9223372036854775807) : z.bmod (2 ^ 64) = z := by
  simp only [Int.bmod]
  split <;> omega
theorem rx_opLb_ok {o : Nat} {x y : Int64} {al ah bl bh : Int} (h1 : al ≤ x.toInt) (h2 : x.toInt ≤ ah) (h3 : bl ≤ y.toInt) (h4 : y.toInt ≤ bh) : (rx_opLb o al ah bl bh).1 ≤ (rx_opL o x y).toInt ∧ (rx_opL o x y).toInt ≤ (rx_opLb o al ah bl bh).2 := by
  have full : ∀ w : Int64, ((-9223372036854775808, 9223372036854775807) : Int × Int).1 ≤ w.toInt ∧ w.toInt ≤ ((-9223372036854775808, 9223372036854775807) : Int × Int).2 := fun w => rx_b64 w
  have hx := rx_b64 x
  have hy := rx_b64 y
  match o with
  | 0 =>
    show (if _ then _ else _ : Int × Int).1 ≤ (x + y).toInt ∧ (x + y).toInt ≤ (if _ then _ else _ : Int × Int).2
    split
    · have e : (x + y).toInt = x.toInt + y.toInt := by
        rw [Int64.toInt_add]
        exact rx_bmodL (by omega) (by omega)
      rw [e]
      exact ⟨by dsimp only; omega, by dsimp only; omega⟩
    · exact full _
  | 1 =>
    show (if _ then _ else _ : Int × Int).1 ≤ (x - y).toInt ∧ (x - y).toInt ≤ (if _ then _ else _ : Int × Int).2
    split
    · have e : (x - y).toInt = x.toInt - y.toInt := by
        rw [Int64.toInt_sub]
        exact rx_bmodL (by omega) (by omega)
      rw [e]
      exact ⟨by dsimp only; omega, by dsimp only; omega⟩
    · exact full _
  | 2 =>
    show (if _ then _ else _ : Int × Int).1 ≤ (x * y).toInt ∧ (x * y).toInt ≤ (if _ then _ else _ : Int × Int).2
    split
    · obtain ⟨g1, g2⟩ := rx_mulb (a := x.toInt) (b := y.toInt) (by omega) h2 (by omega) h4
      have e : (x * y).toInt = x.toInt * y.toInt := by
        rw [Int64.toInt_mul]
        exact rx_bmodL (by omega) (by omega)
      rw [e]
      exact ⟨g1, g2⟩
    · exact full _
  | 3 => exact full _
  | 4 =>
    show (if _ then _ else _ : Int × Int).1 ≤ (x - x / y * y).toInt ∧ (x - x / y * y).toInt ≤ (if _ then _ else _ : Int × Int).2
    split
    · have hx0 : 0 ≤ x.toInt := by omega
      have hy0 : 0 < y.toInt := by omega
      have q1 : 0 ≤ x.toInt / y.toInt := Int.ediv_nonneg hx0 (by omega)
      have q2 := Int.ediv_le_self (a := x.toInt) y.toInt hx0
      have e1 : (x / y).toInt = x.toInt / y.toInt := by
        rw [Int64.toInt_div, Int.tdiv_eq_ediv_of_nonneg hx0]
        exact rx_bmodL (by omega) (by omega)
      have q3 : 0 ≤ x.toInt / y.toInt * y.toInt := Int.mul_nonneg q1 (by omega)
      have q4 := Int.ediv_mul_le x.toInt (b := y.toInt) (by omega)
      have e2 : (x / y * y).toInt = x.toInt / y.toInt * y.toInt := by
        rw [Int64.toInt_mul, e1]
        exact rx_bmodL (by omega) (by omega)
      have e3 : (x - x / y * y).toInt = x.toInt - x.toInt / y.toInt * y.toInt := by
        rw [Int64.toInt_sub, e2]
        exact rx_bmodL (by omega) (by omega)
      have q5 := Int.emod_lt_of_pos x.toInt hy0
      have q6 := Int.emod_add_ediv_mul x.toInt y.toInt
      rw [e3]
      exact ⟨by dsimp only; omega, by dsimp only; omega⟩
    · exact full _
  | n + 5 => exact full _
/-- bounds of a long's number, all of them where none are known -/
def rx_blf (I : rx_I) (a : rx_E) : Int × Int := match rx_bl I a with
  | some q => q
  | none => (-9223372036854775808, 9223372036854775807)
theorem rx_blf_ok {I : rx_I} {a : rx_E} {r : Nat → Int} (h : rx_sat I r) : (rx_blf I a).1 ≤ (Int64.ofInt (rx_ev r a)).toInt ∧ (Int64.ofInt (rx_ev r a)).toInt ≤ (rx_blf I a).2 := by
  unfold rx_blf
  split
  · rename_i q hq
    obtain ⟨lo, hi⟩ := q
    obtain ⟨h1, h2, h3, -⟩ := rx_bl_ok h hq
    rw [h3]
    exact ⟨h1, h2⟩
  · exact rx_b64 _
def rx_binL1 (o : Nat) (I : rx_I) (a b : rx_E) : rx_I × rx_E :=
  if rx_lit a && rx_lit b then (I, 0, (rx_opL o (Int64.ofInt a.2) (Int64.ofInt b.2)).toInt)
  else if o = 0 ∧ rx_lit b = true ∧ a.1 < I.length ∧ (rx_bl I (a.1, a.2 + b.2)).isSome = true then (I, a.1, a.2 + b.2)
  else if o = 0 ∧ rx_lit a = true ∧ b.1 < I.length ∧ (rx_bl I (b.1, b.2 + a.2)).isSome = true then (I, b.1, b.2 + a.2)
  else if o = 1 ∧ rx_lit b = true ∧ a.1 < I.length ∧ (rx_bl I (a.1, a.2 - b.2)).isSome = true then (I, a.1, a.2 - b.2)
  else (I ++ [rx_opLb o (rx_blf I a).1 (rx_blf I a).2 (rx_blf I b).1 (rx_blf I b).2], I.length, 0)
theorem rx_binL1_ok {o : Nat} {I : rx_I} {a b : rx_E} {r : Nat → Int} (h : rx_sat I r) : ∃ r_p : Nat → Int, rx_same I.length r r_p ∧ rx_sat (rx_binL1 o I a b).1 r_p ∧ Int64.ofInt (rx_ev r_p (rx_binL1 o I a b).2) = rx_opL o (Int64.ofInt (rx_ev r a)) (Int64.ofInt (rx_ev r b)) ∧ I.length ≤ (rx_binL1 o I a b).1.length ∧ (rx_binL1 o I a b).2.1 < (rx_binL1 o I a b).1.length := by
  unfold rx_binL1
  split
  · rename_i hc
    rw [Bool.and_eq_true] at hc
    have e1 := rx_lit_ok hc.1 h
    have e3 := rx_lit_ok hc.2 h
    refine ⟨r, rx_same.rf, h, ?_, Nat.le_refl _, rx_pos h⟩
    dsimp only
    rw [rx_ev0 h, Int64.ofInt_toInt, e1, e3]
  · split
    · rename_i hc
      obtain ⟨ho, hl, hs, -⟩ := hc
      subst ho
      refine ⟨r, rx_same.rf, h, ?_, Nat.le_refl _, hs⟩
      rw [rx_lit_ok hl h]
      show Int64.ofInt (r a.1 + (a.2 + b.2)) = Int64.ofInt (r a.1 + a.2) + Int64.ofInt b.2
      rw [← Int64.ofInt_add, Int.add_assoc]
    · split
      · rename_i hc
        obtain ⟨ho, hl, hs, -⟩ := hc
        subst ho
        refine ⟨r, rx_same.rf, h, ?_, Nat.le_refl _, hs⟩
        rw [rx_lit_ok hl h]
        show Int64.ofInt (r b.1 + (b.2 + a.2)) = Int64.ofInt a.2 + Int64.ofInt (r b.1 + b.2)
        rw [← Int64.ofInt_add]
        congr 1
        omega
      · split
        · rename_i hc
          obtain ⟨ho, hl, hs, -⟩ := hc
          subst ho
          refine ⟨r, rx_same.rf, h, ?_, Nat.le_refl _, hs⟩
          rw [rx_lit_ok hl h]
          show Int64.ofInt (r a.1 + (a.2 - b.2)) = Int64.ofInt (r a.1 + a.2) - Int64.ofInt b.2
          rw [← Int64.ofInt_sub]
          congr 1
          omega
        · obtain ⟨g1, g2⟩ := rx_opLb_ok (o := o) (rx_blf_ok (a := a) h).1 (rx_blf_ok (a := a) h).2 (rx_blf_ok (a := b) h).1 (rx_blf_ok (a := b) h).2
          obtain ⟨r_p, q1, q2, q3⟩ := rx_freshL (rx_opL o (Int64.ofInt (rx_ev r a)) (Int64.ofInt (rx_ev r b))) h g1 g2
          exact ⟨r_p, q1, q2, q3, by simp, by simp⟩
def rx_binL (o : Nat) (I : rx_I) (a b : rx_E) : rx_I × rx_E := rx_binL1 o I (rx_nm I a) (rx_nm I b)
theorem rx_binL_ok {o : Nat} {I : rx_I} {a b : rx_E} {r : Nat → Int} (h : rx_sat I r) : ∃ r_p : Nat → Int, rx_same I.length r r_p ∧ rx_sat (rx_binL o I a b).1 r_p ∧ Int64.ofInt (rx_ev r_p (rx_binL o I a b).2) = rx_opL o (Int64.ofInt (rx_ev r a)) (Int64.ofInt (rx_ev r b)) ∧ I.length ≤ (rx_binL o I a b).1.length ∧ (rx_binL o I a b).2.1 < (rx_binL o I a b).1.length := by
  have := rx_binL1_ok (o := o) (a := rx_nm I a) (b := rx_nm I b) h
  rw [(rx_nm_ok (e := a) h).1, (rx_nm_ok (e := b) h).1] at this
  exact this
