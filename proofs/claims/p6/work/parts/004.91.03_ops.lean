/-! A REFLECTED MACHINE, part 2: what an operation makes of numbers -/
def ry_op (o : Nat) (x y : Int32) : Int32 := match o with
  | 0 => x + y
  | 1 => x - y
  | 2 => x * y
  | 3 => x / y
  | 4 => x - x / y * y
  | 5 => x &&& y
  | 6 => x ||| y
  | 7 => x ^^^ y
  | 8 => x <<< (y &&& 31)
  | 9 => x >>> (y &&& 31)
  | _ => (x.toUInt32 >>> (y.toUInt32 &&& Int32.toUInt32 31)).toInt32
/-- bounds of an answer, by those of what it is made of -/
def ry_opb (o : Nat) (al ah bl bh : Int) : Int × Int := match o with
  | 0 => if -2147483648 ≤ al + bl ∧ ah + bh ≤ 2147483647 then (al + bl, ah + bh) else (-2147483648, 2147483647)
  | 1 => if -2147483648 ≤ al - bh ∧ ah - bl ≤ 2147483647 then (al - bh, ah - bl) else (-2147483648, 2147483647)
  | 2 => if 0 ≤ al ∧ 0 ≤ bl ∧ ah * bh ≤ 2147483647 then (0, ah * bh) else (-2147483648, 2147483647)
  | 3 => if 0 ≤ al ∧ 0 < bl then (0, ah) else (-2147483648, 2147483647)
  | 4 => if 0 < bl then (if 0 ≤ al then (0, bh - 1) else (1 - bh, bh - 1)) else (-2147483648, 2147483647)
  | _ => (-2147483648, 2147483647)
theorem ry_mulb {a b ah bh : Int} (h0 : 0 ≤ a) (h1 : a ≤ ah) (h2 : 0 ≤ b) (h3 : b ≤ bh) : 0 ≤ a * b ∧ a * b ≤ ah * bh :=
  ⟨Int.mul_nonneg h0 h2, Int.le_trans (Int.mul_le_mul_of_nonneg_right h1 h2) (Int.mul_le_mul_of_nonneg_left h3 (Int.le_trans h0 h1))⟩
theorem ry_bmod {z : Int} (h1 : -2147483648 ≤ z) (h2 : z ≤ 2147483647) : z.bmod (2 ^ 32) = z := by
  simp only [Int.bmod]
  split <;> omega
theorem ry_opb_ok {o : Nat} {x y : Int32} {al ah bl bh : Int} (h1 : al ≤ x.toInt) (h2 : x.toInt ≤ ah) (h3 : bl ≤ y.toInt) (h4 : y.toInt ≤ bh) : (ry_opb o al ah bl bh).1 ≤ (ry_op o x y).toInt ∧ (ry_op o x y).toInt ≤ (ry_opb o al ah bl bh).2 := by
  have full : ∀ w : Int32, ((-2147483648, 2147483647) : Int × Int).1 ≤ w.toInt ∧ w.toInt ≤ ((-2147483648, 2147483647) : Int × Int).2 := fun w => ry_b32 w
  match o with
  | 0 =>
    show (if _ then _ else _ : Int × Int).1 ≤ (x + y).toInt ∧ (x + y).toInt ≤ (if _ then _ else _ : Int × Int).2
    split
    · rename_i h
      have e : (x + y).toInt = x.toInt + y.toInt := by
        rw [Int32.toInt_add]
        exact ry_bmod (by omega) (by omega)
      rw [e]
      exact ⟨by dsimp only; omega, by dsimp only; omega⟩
    · exact full _
  | 1 =>
    show (if _ then _ else _ : Int × Int).1 ≤ (x - y).toInt ∧ (x - y).toInt ≤ (if _ then _ else _ : Int × Int).2
    split
    · rename_i h
      have e : (x - y).toInt = x.toInt - y.toInt := by
        rw [Int32.toInt_sub]
        exact ry_bmod (by omega) (by omega)
      rw [e]
      exact ⟨by dsimp only; omega, by dsimp only; omega⟩
    · exact full _
  | 2 =>
    show (if _ then _ else _ : Int × Int).1 ≤ (x * y).toInt ∧ (x * y).toInt ≤ (if _ then _ else _ : Int × Int).2
    split
    · rename_i h
      obtain ⟨g1, g2⟩ := ry_mulb (a := x.toInt) (b := y.toInt) (by omega) h2 (by omega) h4
      have e : (x * y).toInt = x.toInt * y.toInt := by
        rw [Int32.toInt_mul]
        exact ry_bmod (by omega) (by omega)
      rw [e]
      exact ⟨g1, g2⟩
    · exact full _
  | 3 =>
    show (if _ then _ else _ : Int × Int).1 ≤ (x / y).toInt ∧ (x / y).toInt ≤ (if _ then _ else _ : Int × Int).2
    split
    · rename_i h
      have e : (x / y).toInt = x.toInt.tdiv y.toInt := by
        rw [Int32.toInt_div]
        refine ry_bmod ?_ ?_
        · have := Int.tdiv_nonneg (a := x.toInt) (b := y.toInt) (by omega) (by omega)
          omega
        · have := Int.tdiv_le_self (a := x.toInt) y.toInt (by omega)
          have := ry_b32 x
          omega
      rw [e]
      have g1 := Int.tdiv_nonneg (a := x.toInt) (b := y.toInt) (by omega) (by omega)
      have g2 := Int.tdiv_le_self (a := x.toInt) y.toInt (by omega)
      exact ⟨by dsimp only; omega, by dsimp only; omega⟩
    · exact full _
  | 4 =>
    show (if _ then _ else _ : Int × Int).1 ≤ (x - x / y * y).toInt ∧ (x - x / y * y).toInt ≤ (if _ then _ else _ : Int × Int).2
    rw [rem_toInt]
    split
    · rename_i h
      obtain ⟨g1, g2⟩ := tmod_bounds (a := x.toInt) (M := y.toInt) (by omega)
      split
      · rename_i h5
        have g3 := Int.tmod_nonneg (a := x.toInt) y.toInt (by omega)
        exact ⟨by dsimp only; omega, by dsimp only; omega⟩
      · exact ⟨by dsimp only; omega, by dsimp only; omega⟩
    · have := full (x - x / y * y)
      rw [rem_toInt] at this
      exact this
  | n + 5 => exact full _
/-- an answer: known, a symbol with an offset, or a new symbol -/
def ry_lit (e : ry_E) : Bool := e.1 == 0
theorem ry_lit_ok {I : ry_I} {e : ry_E} {r : Nat → Int} (h : ry_lit e = true) (hs : ry_sat I r) : ry_ev r e = e.2 := by
  unfold ry_lit at h
  rw [beq_iff_eq] at h
  unfold ry_ev
  rw [h, hs.1]
  omega
theorem ry_ev0 {I : ry_I} {r : Nat → Int} (hs : ry_sat I r) (z : Int) : ry_ev r (0, z) = z := by
  unfold ry_ev
  rw [hs.1]
  omega
def ry_bin1 (o : Nat) (I : ry_I) (a b : ry_E) : Option (ry_I × ry_E) :=
  if ry_lit a && ry_lit b then some (I, 0, (ry_op o (Int32.ofInt a.2) (Int32.ofInt b.2)).toInt)
  else match ry_bi I a, ry_bi I b with
    | some (al, ah), some (bl, bh) =>
      if o = 0 ∧ ry_lit b = true ∧ -2147483648 ≤ al + b.2 ∧ ah + b.2 ≤ 2147483647 then some (I, a.1, a.2 + b.2)
      else if o = 0 ∧ ry_lit a = true ∧ -2147483648 ≤ bl + a.2 ∧ bh + a.2 ≤ 2147483647 then some (I, b.1, b.2 + a.2)
      else if o = 1 ∧ ry_lit b = true ∧ -2147483648 ≤ al - b.2 ∧ ah - b.2 ≤ 2147483647 then some (I, a.1, a.2 - b.2)
      else some (I ++ [ry_opb o al ah bl bh], I.length, 0)
    | _, _ => none
/-- an int comes as a new symbol -/
theorem ry_fresh {I : ry_I} {r : Nat → Int} {lo hi : Int} (x : Int32) (h : ry_sat I r) (h1 : lo ≤ x.toInt) (h2 : x.toInt ≤ hi) : ∃ r_p : Nat → Int, ry_same I.length r r_p ∧ ry_sat (I ++ [(lo, hi)]) r_p ∧ Int32.ofInt (ry_ev r_p (I.length, 0)) = x := by
  refine ⟨ry_up r I.length x.toInt, ry_up_same, ry_sat_up h h1 h2, ?_⟩
  unfold ry_ev
  rw [ry_up_self, Int.add_zero, Int32.ofInt_toInt]
theorem ry_freshL {I : ry_I} {r : Nat → Int} {lo hi : Int} (x : Int64) (h : ry_sat I r) (h1 : lo ≤ x.toInt) (h2 : x.toInt ≤ hi) : ∃ r_p : Nat → Int, ry_same I.length r r_p ∧ ry_sat (I ++ [(lo, hi)]) r_p ∧ Int64.ofInt (ry_ev r_p (I.length, 0)) = x := by
  refine ⟨ry_up r I.length x.toInt, ry_up_same, ry_sat_up h h1 h2, ?_⟩
  unfold ry_ev
  rw [ry_up_self, Int.add_zero, Int64.ofInt_toInt]
theorem ry_bin1_ok {o : Nat} {I I2 : ry_I} {a b e : ry_E} {r : Nat → Int} (h : ry_sat I r) (hb : ry_bin1 o I a b = some (I2, e)) : ∃ r_p : Nat → Int, ry_same I.length r r_p ∧ ry_sat I2 r_p ∧ Int32.ofInt (ry_ev r_p e) = ry_op o (Int32.ofInt (ry_ev r a)) (Int32.ofInt (ry_ev r b)) ∧ I.length ≤ I2.length ∧ e.1 < I2.length := by
  unfold ry_bin1 at hb
  split at hb
  · rename_i hc
    rw [Bool.and_eq_true] at hc
    have e1 := ry_lit_ok hc.1 h
    have e3 := ry_lit_ok hc.2 h
    cases hb
    refine ⟨r, ry_same.rf, h, ?_, Nat.le_refl _, ry_pos h⟩
    rw [ry_ev0 h, Int32.ofInt_toInt, e1, e3]
  · split at hb
    · rename_i al ah bl bh ha hbb
      obtain ⟨a1, a2, a3, a4⟩ := ry_bi_ok h ha
      obtain ⟨b1, b2, b3, b4⟩ := ry_bi_ok h hbb
      split at hb
      · rename_i hc
        obtain ⟨rfl, hc2, hc3, hc4⟩ := hc
        have e1 := ry_lit_ok hc2 h
        cases hb
        refine ⟨r, ry_same.rf, h, ?_, Nat.le_refl _, a4⟩
        show Int32.ofInt (ry_ev r (a.1, a.2 + b.2)) = Int32.ofInt (ry_ev r a) + Int32.ofInt (ry_ev r b)
        rw [← Int32.ofInt_add, e1]
        congr 1
        unfold ry_ev
        dsimp only
        omega
      · split at hb
        · rename_i hc
          obtain ⟨rfl, hc2, hc3, hc4⟩ := hc
          have e1 := ry_lit_ok hc2 h
          cases hb
          refine ⟨r, ry_same.rf, h, ?_, Nat.le_refl _, b4⟩
          show Int32.ofInt (ry_ev r (b.1, b.2 + a.2)) = Int32.ofInt (ry_ev r a) + Int32.ofInt (ry_ev r b)
          rw [← Int32.ofInt_add, e1]
          congr 1
          unfold ry_ev
          dsimp only
          omega
        · split at hb
          · rename_i hc
            obtain ⟨rfl, hc2, hc3, hc4⟩ := hc
            have e1 := ry_lit_ok hc2 h
            cases hb
            refine ⟨r, ry_same.rf, h, ?_, Nat.le_refl _, a4⟩
            show Int32.ofInt (ry_ev r (a.1, a.2 - b.2)) = Int32.ofInt (ry_ev r a) - Int32.ofInt (ry_ev r b)
            rw [← Int32.ofInt_sub, e1]
            congr 1
            unfold ry_ev
            dsimp only
            omega
          · cases hb
            obtain ⟨g1, g2⟩ := ry_opb_ok (o := o) (x := Int32.ofInt (ry_ev r a)) (y := Int32.ofInt (ry_ev r b)) (al := al) (ah := ah) (bl := bl) (bh := bh) (by rw [a3]; exact a1) (by rw [a3]; exact a2) (by rw [b3]; exact b1) (by rw [b3]; exact b2)
            obtain ⟨r_p, q1, q2, q3⟩ := ry_fresh (lo := (ry_opb o al ah bl bh).1) (hi := (ry_opb o al ah bl bh).2) (ry_op o (Int32.ofInt (ry_ev r a)) (Int32.ofInt (ry_ev r b))) h g1 g2
            exact ⟨r_p, q1, q2, q3, by simp, by simp⟩
    · cases hb
def ry_bin (o : Nat) (I : ry_I) (a b : ry_E) : Option (ry_I × ry_E) := ry_bin1 o I (ry_nm I a) (ry_nm I b)
theorem ry_bin_ok {o : Nat} {I I2 : ry_I} {a b e : ry_E} {r : Nat → Int} (h : ry_sat I r) (hb : ry_bin o I a b = some (I2, e)) : ∃ r_p : Nat → Int, ry_same I.length r r_p ∧ ry_sat I2 r_p ∧ Int32.ofInt (ry_ev r_p e) = ry_op o (Int32.ofInt (ry_ev r a)) (Int32.ofInt (ry_ev r b)) ∧ I.length ≤ I2.length ∧ e.1 < I2.length := by
  have := ry_bin1_ok h hb
  rw [(ry_nm_ok (e := a) h).1, (ry_nm_ok (e := b) h).1] at this
  exact this
/-- longs: the same, with fewer bounds -/
def ry_opL (o : Nat) (x y : Int64) : Int64 := match o with
  | 0 => x + y
  | 1 => x - y
  | 2 => x * y
  | 3 => x / y
  | 4 => x - x / y * y
  | 5 => x &&& y
  | 6 => x ||| y
  | _ => x ^^^ y
def ry_binL1 (o : Nat) (I : ry_I) (a b : ry_E) : ry_I × ry_E :=
  if ry_lit a && ry_lit b then (I, 0, (ry_opL o (Int64.ofInt a.2) (Int64.ofInt b.2)).toInt)
  else if o = 0 ∧ ry_lit b = true ∧ a.1 < I.length then (I, a.1, a.2 + b.2)
  else if o = 0 ∧ ry_lit a = true ∧ b.1 < I.length then (I, b.1, b.2 + a.2)
  else if o = 1 ∧ ry_lit b = true ∧ a.1 < I.length then (I, a.1, a.2 - b.2)
  else (I ++ [(-9223372036854775808, 9223372036854775807)], I.length, 0)
theorem ry_binL1_ok {o : Nat} {I : ry_I} {a b : ry_E} {r : Nat → Int} (h : ry_sat I r) : ∃ r_p : Nat → Int, ry_same I.length r r_p ∧ ry_sat (ry_binL1 o I a b).1 r_p ∧ Int64.ofInt (ry_ev r_p (ry_binL1 o I a b).2) = ry_opL o (Int64.ofInt (ry_ev r a)) (Int64.ofInt (ry_ev r b)) ∧ I.length ≤ (ry_binL1 o I a b).1.length ∧ (ry_binL1 o I a b).2.1 < (ry_binL1 o I a b).1.length := by
  unfold ry_binL1
  split
  · rename_i hc
    rw [Bool.and_eq_true] at hc
    have e1 := ry_lit_ok hc.1 h
    have e3 := ry_lit_ok hc.2 h
    refine ⟨r, ry_same.rf, h, ?_, Nat.le_refl _, ry_pos h⟩
    dsimp only
    rw [ry_ev0 h, Int64.ofInt_toInt, e1, e3]
  · split
    · rename_i hc
      obtain ⟨ho, hl, hs⟩ := hc
      subst ho
      refine ⟨r, ry_same.rf, h, ?_, Nat.le_refl _, hs⟩
      rw [ry_lit_ok hl h]
      show Int64.ofInt (r a.1 + (a.2 + b.2)) = Int64.ofInt (r a.1 + a.2) + Int64.ofInt b.2
      rw [← Int64.ofInt_add, Int.add_assoc]
    · split
      · rename_i hc
        obtain ⟨ho, hl, hs⟩ := hc
        subst ho
        refine ⟨r, ry_same.rf, h, ?_, Nat.le_refl _, hs⟩
        rw [ry_lit_ok hl h]
        show Int64.ofInt (r b.1 + (b.2 + a.2)) = Int64.ofInt a.2 + Int64.ofInt (r b.1 + b.2)
        rw [← Int64.ofInt_add]
        congr 1
        omega
      · split
        · rename_i hc
          obtain ⟨ho, hl, hs⟩ := hc
          subst ho
          refine ⟨r, ry_same.rf, h, ?_, Nat.le_refl _, hs⟩
          rw [ry_lit_ok hl h]
          show Int64.ofInt (r a.1 + (a.2 - b.2)) = Int64.ofInt (r a.1 + a.2) - Int64.ofInt b.2
          rw [← Int64.ofInt_sub]
          congr 1
          omega
        · obtain ⟨r_p, q1, q2, q3⟩ := ry_freshL (lo := -9223372036854775808) (hi := 9223372036854775807) (ry_opL o (Int64.ofInt (ry_ev r a)) (Int64.ofInt (ry_ev r b))) h (ry_b64 _).1 (ry_b64 _).2
          exact ⟨r_p, q1, q2, q3, by simp, by simp⟩
def ry_binL (o : Nat) (I : ry_I) (a b : ry_E) : ry_I × ry_E := ry_binL1 o I (ry_nm I a) (ry_nm I b)
theorem ry_binL_ok {o : Nat} {I : ry_I} {a b : ry_E} {r : Nat → Int} (h : ry_sat I r) : ∃ r_p : Nat → Int, ry_same I.length r r_p ∧ ry_sat (ry_binL o I a b).1 r_p ∧ Int64.ofInt (ry_ev r_p (ry_binL o I a b).2) = ry_opL o (Int64.ofInt (ry_ev r a)) (Int64.ofInt (ry_ev r b)) ∧ I.length ≤ (ry_binL o I a b).1.length ∧ (ry_binL o I a b).2.1 < (ry_binL o I a b).1.length := by
  have := ry_binL1_ok (o := o) (a := ry_nm I a) (b := ry_nm I b) h
  rw [(ry_nm_ok (e := a) h).1, (ry_nm_ok (e := b) h).1] at this
  exact this
