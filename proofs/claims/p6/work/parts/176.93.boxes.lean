/-! BEHIND THE CONSTRUCTORS: their heap as boxes -/
def rz_num (x : ry_X) : Int := match x with
  | .inl (.inl (some k)) => (k : Int)
  | .inl (.inr (_, e)) => e.2
  | _ => 0
def rz_sl (x : ry_C) (j : Nat) : Int := match x with
  | .inl (_, fs) => match rx_nth fs j with
    | some f => rz_num f
    | none => 0
  | .inr (_, _, df, ov) => rz_num (ry_gt ov df j)
/-- what the slots hold behind the constructors -/
def rzS (p : Nat) (j : Int) : Int := match ryH[p]? with
  | some x => rz_sl x j.toNat
  | none => 0
/-- is a value of the kind tc -/
def rz_k (tc : Nat) (x : ry_X) : Bool := match x with
  | .inl (.inr (0, e)) => Nat.beq e.1 0 && Nat.ble tc 1
  | .inl (.inr (1, e)) => Nat.beq e.1 0 && Nat.beq tc 2
  | .inl (.inl (some _)) => Nat.ble 3 tc
  | _ => false
def rz_ks : List Nat → List ry_X → Bool
  | [], [] => true
  | tc :: l, x :: m => rz_k tc x && rz_ks l m
  | _, _ => false
def rz_full (ov : List (Nat × ry_V)) : Nat → Bool
  | 0 => true
  | n + 1 => match ry_lk ov n with
    | some _ => rz_full ov n
    | none => false
def rz_cl (k : bx_K) (x : ry_C) : Bool := match k, x with
  | .inl (ci, tcs), .inl (c2, fs) => Nat.beq ci c2 && rz_ks tcs fs
  | .inr (tc, n, _), .inr (t2, n2, df, ov) => Nat.beq tc t2 && (Nat.beq n n2 && ((rz_k tc df || rz_full ov n) && ov.all (fun q => rz_k tc (.inl q.2))))
  | _, _ => false
theorem rz_k_ok {tc : Nat} {x : ry_X} {r : Nat → Int} {ad xa : Nat → Nat} {w : Value} (h : rz_k tc x = true) (hr : r 0 = 0) (hw : ry_ok r ad xa x w) : w = bx_fv ad tc (rz_num x) := by
  unfold rz_k at h
  split at h
  · rename_i e
    rw [Bool.and_eq_true, Nat.beq_eq, Nat.ble_eq] at h
    obtain ⟨h1, h2⟩ := h
    have hw : w = .int (Int32.ofInt (r e.1 + e.2)) := hw
    rw [h1, hr, Int.zero_add] at hw
    rcases (show tc = 0 ∨ tc = 1 by omega) with h | h
    · subst h; exact hw
    · subst h; exact hw
  · rename_i e
    rw [Bool.and_eq_true, Nat.beq_eq, Nat.beq_eq] at h
    obtain ⟨h1, h2⟩ := h
    have hw : w = .long (Int64.ofInt (r e.1 + e.2)) := hw
    rw [h1, hr, Int.zero_add] at hw
    subst h2
    exact hw
  · rename_i k
    have h := Nat.ble_eq.mp h
    have hw : w = .ref (ad k) := hw
    obtain ⟨m, rfl⟩ : ∃ m, tc = m + 3 := ⟨tc - 3, by omega⟩
    exact hw
  · cases h
theorem rz_ks_ok : ∀ {tcs : List Nat} {fs : List ry_X}, rz_ks tcs fs = true → tcs.length = fs.length ∧ ∀ (i tc : Nat), tcs[i]? = some tc → ∃ f, fs[i]? = some f ∧ rx_nth fs i = some f ∧ rz_k tc f = true
  | [], [], _ => ⟨rfl, fun i tc h => by cases h⟩
  | tc :: l, x :: m, h => by
    have h : (rz_k tc x && rz_ks l m) = true := h
    rw [Bool.and_eq_true] at h
    obtain ⟨h1, h2⟩ := rz_ks_ok h.2
    refine ⟨congrArg (· + 1) h1, fun i t hi => ?_⟩
    cases i with
    | zero =>
      cases hi
      exact ⟨x, rfl, rfl, h.1⟩
    | succ i => exact h2 i t hi
  | [], _ :: _, h => by cases h
  | _ :: _, [], h => by cases h
theorem rz_full_ok {ov : List (Nat × ry_V)} : ∀ {n : Nat}, rz_full ov n = true → ∀ j, j < n → ∃ v, ry_lk ov j = some v
  | 0, _, j, hj => absurd hj (Nat.not_lt_zero j)
  | n + 1, h, j, hj => by
    rw [rz_full] at h
    split at h
    · rename_i v hv
      rcases Nat.lt_or_ge j n with h1 | h1
      · exact rz_full_ok h j h1
      · have e : j = n := by omega
        subst e
        exact ⟨v, hv⟩
    · cases h
theorem rz_gt_ok {P : ry_X → Prop} {ov : List (Nat × ry_V)} {df : ry_X} {n : Nat} (h1 : P df ∨ rz_full ov n = true) (h2 : ∀ q ∈ ov, P (.inl q.2)) : ∀ j, j < n → P (ry_gt ov df j) := fun j hj => by
  unfold ry_gt
  split
  · rename_i v hv
    exact h2 _ (ry_lk_mem hv)
  · rename_i hn
    rcases h1 with h1 | h1
    · exact h1
    · obtain ⟨v, hv⟩ := rz_full_ok h1 j hj
      rw [hn] at hv
      cases hv
theorem rz_ty (cl : List vw_C) (tc : Nat) : ry_ty cl tc = rx_ty cl tc := by
  match tc with
  | 0 => rfl
  | 1 => rfl
  | 2 => rfl
  | 3 => rfl
  | 4 => rfl
  | _ + 5 => rfl
theorem rz_sh {tc : Nat} {c : ry_cont} (h : ry_sh tc c) : rx_sh tc c := by
  match tc with
  | 0 => exact h
  | 1 => exact h
  | 2 => exact h
  | 3 => exact h
  | 4 => exact h
  | _ + 5 => exact h
theorem rz_el (c : ry_cont) (j : Nat) : rx_el c j = ry_el c j := by
  match c with
  | .inl f => rfl
  | .inr (.inl f) => rfl
  | .inr (.inr (.inl f)) => rfl
  | .inr (.inr (.inr (.inl f))) => rfl
  | .inr (.inr (.inr (.inr f))) => rfl
theorem rz_cell {cl : List vw_C} {tys : List (ClassId × FieldType)} {r : Nat → Int} {ad xa : Nat → Nat} {k : bx_K} {x : ry_C} {e : va_E} {S : Int → Int} (h : rz_cl k x = true) (hr : r 0 = 0) (hS : ∀ j : Nat, S (j : Int) = rz_sl x j) (hx : ry_cell cl tys r ad xa x e) : bx_cell cl tys ad k S e := by
  unfold rz_cl at h
  split at h
  · rename_i ci tcs c2 fs
    rw [Bool.and_eq_true, Nat.beq_eq] at h
    obtain ⟨h1, h2⟩ := h
    subst h1
    obtain ⟨k1, k2⟩ := rz_ks_ok h2
    obtain ⟨vs, e1, e2, e3⟩ := hx
    refine ⟨vs, e1, e2.trans k1.symm, fun i tc hi => ?_⟩
    obtain ⟨f, f1, f2, f3⟩ := k2 i tc hi
    obtain ⟨w, w1, w2⟩ := e3 i f f1
    rw [w1, hS i]
    show some w = some (bx_fv ad tc (match rx_nth fs i with
      | some f => rz_num f
      | none => 0))
    rw [f2]
    exact congrArg some (rz_k_ok f3 hr w2)
  · rename_i tc n g t2 n2 df ov
    rw [Bool.and_eq_true, Bool.and_eq_true, Bool.and_eq_true, Nat.beq_eq, Nat.beq_eq, Bool.or_eq_true] at h
    obtain ⟨h1, h2, h3, h4⟩ := h
    subst h1; subst h2
    obtain ⟨cA, t0, c, e1, e2, e3, e4⟩ := hx
    refine ⟨cA, t0, c, e1, by rw [← rz_ty]; exact e2, rz_sh e3, fun j hj => ?_⟩
    rw [rz_el, hS j]
    exact rz_k_ok (rz_gt_ok (P := fun x => rz_k tc x = true) h3 (fun q hq => List.all_eq_true.mp h4 q hq) j hj) hr (e4 j hj)
  · cases h
-- what the slots may hold
def rz_ok (t : bx_T) (v : Int) : Bool := match t with
  | (0, lo, hi) => decide (lo ≤ v) && decide (v ≤ hi)
  | (1, q, _) => decide (v = q)
  | (_ + 2, d, _) => rxDmf d.toNat v
theorem rz_ok_ok {t : bx_T} {v : Int} (h : rz_ok t v = true) : bx_okT rxL t v := by
  obtain ⟨k, a, b⟩ := t
  match k with
  | 0 =>
    have h : (decide (a ≤ v) && decide (v ≤ b)) = true := h
    rw [Bool.and_eq_true, decide_eq_true_eq, decide_eq_true_eq] at h
    exact h
  | 1 =>
    show v = a
    exact of_decide_eq_true (show decide (v = a) = true from h)
  | _ + 2 => exact h
def rz_run (f : Nat → Bool) : Nat → Nat → Bool
  | 0, _ => true
  | k + 1, j => match f j with
    | true => rz_run f k (j + 1)
    | false => false
theorem rz_run_ok {f : Nat → Bool} : ∀ {k j : Nat}, rz_run f k j = true → ∀ i, j ≤ i → i < j + k → f i = true
  | 0, j, _, i, h1, h2 => absurd h2 (Nat.not_lt.mpr h1)
  | k + 1, j, h, i, h1, h2 => by
    rw [rz_run] at h
    split at h
    · rename_i hj
      rcases Nat.lt_or_ge j i with h3 | h3
      · exact rz_run_ok h i h3 (by omega)
      · have e : i = j := by omega
        subst e
        exact hj
    · cases h
def rz_cut (lo hi : Int) : bx_S → bx_S
  | [] => []
  | s :: l => match decide (s.1 ≤ hi) && decide (lo ≤ s.2.1) with
    | true => s :: rz_cut lo hi l
    | false => rz_cut lo hi l
theorem rz_cut_ok {lo hi j : Int} (h1 : lo ≤ j) (h2 : j ≤ hi) : ∀ ss : bx_S, bx_sg (rz_cut lo hi ss) j = bx_sg ss j
  | [] => rfl
  | s :: l => by
    have ih := rz_cut_ok h1 h2 l
    rw [rz_cut]
    split
    · show (if s.1 ≤ j ∧ j ≤ s.2.1 ∧ (j - s.1) % s.2.2.1 = 0 then s.2.2.2 else bx_sg (rz_cut lo hi l) j) = (if s.1 ≤ j ∧ j ≤ s.2.1 ∧ (j - s.1) % s.2.2.1 = 0 then s.2.2.2 else bx_sg l j)
      rw [ih]
    · rename_i hf
      rw [ih]
      show bx_sg l j = (if s.1 ≤ j ∧ j ≤ s.2.1 ∧ (j - s.1) % s.2.2.1 = 0 then s.2.2.2 else bx_sg l j)
      rw [if_neg]
      rintro ⟨a, b, -⟩
      rw [Bool.and_eq_false_iff, decide_eq_false_iff_not, decide_eq_false_iff_not] at hf
      omega
/-- blocks of 64 slots -/
def rz_blk (v : Nat → Int) (ss : bx_S) (n : Nat) : Nat → Nat → Bool
  | 0, _ => true
  | k + 1, b => match rz_run (fun j => Nat.ble n j || rz_ok (bx_sg (rz_cut ((64 * b : Nat) : Int) ((64 * b + 63 : Nat) : Int) ss) (j : Int)) (v j)) 64 (64 * b) with
    | true => rz_blk v ss n k (b + 1)
    | false => false
theorem rz_blk_ok {v : Nat → Int} {ss : bx_S} {n : Nat} : ∀ {k b : Nat}, rz_blk v ss n k b = true → ∀ i, 64 * b ≤ i → i < 64 * (b + k) → i < n → rz_ok (bx_sg ss (i : Int)) (v i) = true
  | 0, b, _, i, h1, h2, _ => by omega
  | k + 1, b, h, i, h1, h2, h3 => by
    rw [rz_blk] at h
    split at h
    · rename_i hr
      rcases Nat.lt_or_ge i (64 * (b + 1)) with h4 | h4
      · have h5 := rz_run_ok hr i h1 (by omega)
        rw [Bool.or_eq_true, Nat.ble_eq] at h5
        rcases h5 with h5 | h5
        · omega
        · rw [rz_cut_ok (by omega) (by omega)] at h5
          exact h5
      · exact rz_blk_ok h i h4 (by omega) h3
    · cases h
def rz_one (ss : bx_S) (n : Nat) (df : ry_X) (ov : List (Nat × ry_V)) : Bool := match ss with
  | [s] => decide (s.1 = 0) && (decide ((n : Int) ≤ s.2.1 + 1) && (decide (s.2.2.1 = 1) && ((rz_ok s.2.2.2 (rz_num df) || rz_full ov n) && ov.all (fun q => rz_ok s.2.2.2 (rz_num (.inl q.2))))))
  | _ => false
theorem rz_one_ok {ss : bx_S} {n : Nat} {df : ry_X} {ov : List (Nat × ry_V)} (h : rz_one ss n df ov = true) (j : Nat) (hj : j < n) : rz_ok (bx_sg ss (j : Int)) (rz_num (ry_gt ov df j)) = true := by
  unfold rz_one at h
  split at h
  · rename_i s
    rw [Bool.and_eq_true, Bool.and_eq_true, Bool.and_eq_true, Bool.and_eq_true, decide_eq_true_eq, decide_eq_true_eq, decide_eq_true_eq, Bool.or_eq_true] at h
    obtain ⟨h1, h2, h3, h4, h5⟩ := h
    have e : bx_sg [s] (j : Int) = s.2.2.2 := by
      show (if s.1 ≤ (j : Int) ∧ (j : Int) ≤ s.2.1 ∧ ((j : Int) - s.1) % s.2.2.1 = 0 then s.2.2.2 else (0, 1, 0)) = s.2.2.2
      rw [if_pos]
      exact ⟨by omega, by omega, by rw [h3]; exact Int.emod_one _⟩
    rw [e]
    exact rz_gt_ok (P := fun x => rz_ok s.2.2.2 (rz_num x) = true) h4 (fun q hq => List.all_eq_true.mp h5 q hq) j hj
  · cases h
def rz_sp (pl : bx_Pl) (x : ry_C) : Bool := match pl.2.2, x with
  | .inl ll, .inl (_, fs) => rz_run (fun j => match bx_n2 ll j with
    | some t => rz_ok t (rz_sl x j)
    | none => false) fs.length 0
  | .inr ss, .inr (_, n, df, ov) => rz_one ss n df ov || rz_blk (fun j => rz_num (ry_gt ov df j)) ss n (Nat.div n 64 + 1) 0
  | _, _ => false
def rz_w (x : ry_C) : Nat := match x with
  | .inl (_, fs) => fs.length
  | .inr (_, n, _, _) => n
theorem rz_sp_ok {pl : bx_Pl} {x : ry_C} (h : rz_sp pl x = true) (j : Nat) (hj : j < rz_w x) : bx_okT rxL (bx_dT pl (j : Int)) (rz_sl x j) := by
  unfold rz_sp at h
  unfold bx_dT
  split at h
  · rename_i ll ci fs hp
    rw [hp]
    dsimp only
    have h1 := rz_run_ok h j (Nat.zero_le j) (by rw [Nat.zero_add]; exact hj)
    rw [Int.toNat_natCast]
    split at h1
    · rename_i t ht
      rw [ht]
      exact rz_ok_ok h1
    · cases h1
  · rename_i ss tc n df ov hp
    rw [hp]
    dsimp only
    rw [Bool.or_eq_true] at h
    have hj : j < n := hj
    rcases h with h | h
    · exact rz_ok_ok (rz_one_ok h j hj)
    · exact rz_ok_ok (rz_blk_ok h j (by omega) (by
        have := Nat.div_add_mod n 64
        have h2 := Nat.mod_lt n (show 64 > 0 by decide)
        show j < 64 * (0 + (n / 64 + 1))
        omega) hj)
  · cases h
def rz_chk (p : Nat) (x : ry_C) : Bool := match rxPf p with
  | some pl => rz_cl pl.1 x && rz_sp pl x
  | none => false
def rz_chks : List ry_C → Nat → Bool
  | [], _ => true
  | x :: l, p => match rz_chk p x with
    | true => rz_chks l (p + 1)
    | false => false
theorem rz_chks_ok : ∀ {l : List ry_C} {p : Nat}, rz_chks l p = true → ∀ (k : Nat) (x : ry_C), l[k]? = some x → rz_chk (p + k) x = true
  | [], _, _, k, x, h => by cases h
  | y :: l, p, h, k, x, hx => by
    rw [rz_chks] at h
    split at h
    · rename_i hy
      cases k with
      | zero =>
        cases hx
        exact hy
      | succ k =>
        have := rz_chks_ok h k x hx
        rw [show p + 1 + k = p + (k + 1) by omega] at this
        exact this
    · cases h
theorem rzChk : rz_chks ryH 0 = true := by decide +kernel
theorem rzLen : ryH.length = 522 := by decide +kernel
theorem rzNP : rxL.2.1 = 522 := by decide +kernel
theorem rz_w_cl {k : bx_K} {x : ry_C} (h : rz_cl k x = true) : bx_wd k = rz_w x := by
  unfold rz_cl at h
  split at h
  · rw [Bool.and_eq_true] at h
    exact (rz_ks_ok h.2).1
  · rw [Bool.and_eq_true, Bool.and_eq_true, Nat.beq_eq, Nat.beq_eq] at h
    exact h.2.1
  · cases h
/-- a place behind the constructors -/
theorem rz_place {p : Nat} (hp : p < 522) : ∃ (x : ry_C) (pl : bx_Pl), ryH[p]? = some x ∧ rxPf p = some pl ∧ rz_cl pl.1 x = true ∧ rz_sp pl x = true ∧ rxL.1 p = pl.1 ∧ (∀ j : Int, rxL.2.2.1 p j = bx_dT pl j) ∧ ∀ j : Nat, rzS p (j : Int) = rz_sl x j := by
  have hl : p < ryH.length := by rw [rzLen]; exact hp
  have hx : ryH[p]? = some ryH[p] := List.getElem?_eq_getElem hl
  generalize ryH[p] = x at hx
  have h := rz_chks_ok rzChk p x hx
  rw [Nat.zero_add] at h
  unfold rz_chk at h
  split at h
  · rename_i pl hpl
    rw [Bool.and_eq_true] at h
    refine ⟨x, pl, hx, hpl, h.1, h.2, ?_, fun j => ?_, fun j => ?_⟩
    · show (match rxPf p with
        | some x => x.1
        | none => .inr (0, 0, 0) : bx_K) = pl.1
      rw [hpl]
    · show (match rxPf p with
        | some x => bx_dT x j
        | none => (0, 1, 0) : bx_T) = bx_dT pl j
      rw [hpl]
    · unfold rzS
      rw [hx]
      dsimp only
      rw [Int.toNat_natCast]
  · cases h
theorem rzInv : bx_Inv rxL rzS := fun p j hp hj => by
  rw [rzNP] at hp
  obtain ⟨x, pl, h1, h2, h3, h4, h5, h6, h7⟩ := rz_place hp
  rw [h5, rz_w_cl h3] at hj
  rw [h6, h7]
  exact rz_sp_ok h4 j hj
theorem rz_W0 {Dg : va_G} {A : Nat → Prop} {s : State} {xa : Nat → Nat} {N : Nat} {r : Nat → Int} {ad : Nat → Nat} {H : Heap} {f : Nat → Nat → Bool} (hr : r 0 = 0) (h : ry_W0 Dg vwCl A s xa N ryH r ad H) : bx_W0 (Dg, rxL, rzS, f) vwCl A s ad rzS H := by
  obtain ⟨ws, tys, hK, hP, hD, hl, hc⟩ := h
  refine ⟨ws, tys, rzInv, hK, hP, hD, hl.trans (rzLen.trans rzNP.symm), fun p hp => ?_⟩
  obtain ⟨x, pl, h1, h2, h3, h4, h5, h6, h7⟩ := rz_place (show p < 522 by rw [← rzNP]; exact hp)
  obtain ⟨-, e, e1, e2⟩ := hc p x h1
  refine ⟨e, e1, ?_⟩
  show bx_cell vwCl tys ad (rxL.1 p) (rzS p) e
  rw [h5]
  exact rz_cell h3 hr h7 e2
/-- no text is well-formed or not: none lies there -/
theorem rz_tq0 {R : Int → Int} (h : ∀ n : Int, 0 ≤ n → n ≤ 5 → R (780 + 900 * n + 1) = 0) : rxTq R := fun n k n0 n5 k0 k1 _ => by
  rw [h n n0 n5] at k1
  omega
theorem rzX : rxX rzS := by
  have h0 : ∀ n : Int, 0 ≤ n → n ≤ 5 → n = 0 ∨ n = 1 ∨ n = 2 ∨ n = 3 ∨ n = 4 ∨ n = 5 := fun n a b => by omega
  refine ⟨rz_tq0 fun n a b => ?_, rz_tq0 fun n a b => ?_, rz_tq0 fun n a b => ?_, by decide +kernel⟩
  · rcases h0 n a b with rfl | rfl | rfl | rfl | rfl | rfl <;> decide +kernel
  · rcases h0 n a b with rfl | rfl | rfl | rfl | rfl | rfl <;> decide +kernel
  · rcases h0 n a b with rfl | rfl | rfl | rfl | rfl | rfl <;> decide +kernel
