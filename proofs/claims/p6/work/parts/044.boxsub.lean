/-! THE BOX MACHINE: a state that is a case of a pattern -/
def bx_sE (σ : List rx_E) (e : rx_E) : rx_E := match σ[e.1]? with
  | some a => (a.1, a.2 + e.2)
  | none => (0, 0)
def bx_sV (σ : List rx_E) (v : rx_V) : rx_V := match v with
  | .inl o => .inl o
  | .inr (2, e) => .inr (2, (0, e.2))
  | .inr (k, e) => .inr (k, bx_sE σ e)
def bx_eqE (I : rx_I) (a b : rx_E) : Bool := (rx_nm I a).1 == (rx_nm I b).1 && (rx_nm I a).2 == (rx_nm I b).2
def bx_eqV (I : rx_I) (v w : rx_V) : Bool := match v, w with
  | .inl none, .inl none => true
  | .inr (0, a), .inr (0, b) => bx_eqE I a b
  | .inr (1, a), .inr (1, b) => bx_eqE I a b
  | .inr (2, a), .inr (2, b) => a.2 == b.2
  | .inr (3, a), .inr (3, b) => bx_eqE I a b
  | _, _ => false
/-- does a relation follow: its contrary can't be -/
def bx_ent (I : rx_I) (F : rx_F) (c : Nat) (a b : rx_E) : Bool := match rx_bd I a, rx_bd I b with
  | some (al, ah), some (bl, bh) => (match c with
    | 0 => (rx_asm I F 1 b a bl bh al ah).isNone
    | 1 => (rx_asm I F 0 b a bl bh al ah).isNone
    | _ => false)
  | _, _ => false
def bx_subI (I : rx_I) (σ : List rx_E) : List (Int × Int) → List rx_E → Bool
  | [], [] => true
  | b :: bs, e :: es => (match rx_bd I e with
    | some (lo, hi) => decide (b.1 ≤ lo) && decide (hi ≤ b.2)
    | none => false) && bx_subI I σ bs es
  | _, _ => false
def bx_subH (dmf : Nat → Int → Bool) (I : rx_I) (ht : List rx_C) (σ : List rx_E) (q : rx_C) : Bool :=
  if 1000000 ≤ q.1.2 then (((bx_sE σ q.1.1).1 == 0 && dmf (q.1.2 - 1000000) (bx_sE σ q.1.1).2) || ((bx_sE σ q.1.1).2 == 0 && bx_fd ht (bx_sE σ q.1.1).1 == some (q.1.2 - 1000000)))
  else (match bx_ck ht (bx_sE σ q.1.1) q.1.2 with
    | some v => bx_eqV I v (bx_sV σ q.2)
    | none => false)
def bx_subS (I : rx_I) (σ : List rx_E) : List rx_V → List rx_V → Bool
  | [], [] => true
  | v :: vs, w :: ws => bx_eqV I v (bx_sV σ w) && bx_subS I σ vs ws
  | _, _ => false
def bx_scV (N : Nat) (v : rx_V) : Bool := match v with
  | .inl none => true
  | .inl (some _) => false
  | .inr (_, e) => decide (e.1 < N)
/-- a fact of a pattern -/
def bx_subF (I : rx_I) (F : rx_F) (σ : List rx_E) (N : Nat) (f : Nat × rx_E × rx_E) : Bool := decide (f.2.1.1 < N) && (decide (f.2.2.1 < N) && (if f.1 ≤ 1 then bx_ent I F f.1 (bx_sE σ f.2.1) (bx_sE σ f.2.2)
  else (decide (4 ≤ f.1) && (decide (f.1 < 1000000) && F.any (fun g => g.1 == f.1 && (bx_eqE I g.2.1 (bx_sE σ f.2.1) && bx_eqE I g.2.2 (bx_sE σ f.2.2)))))))
/-- z is a case of the pattern y, with the symbols of y as σ says -/
def bx_sub (dmf : Nat → Int → Bool) (σ : List rx_E) (z y : rx_Z) : Bool :=
  (match σ with
    | (0, 0) :: _ => true
    | _ => false) && (decide (8 ≤ y.1.length) && (bx_subI z.1 σ y.1 σ && (y.2.1.all (bx_subF z.1 z.2.1 σ y.1.length) && (y.2.2.1.all (fun q => decide (q.1.1.1 < y.1.length) && (bx_scV y.1.length q.2 && bx_subH dmf z.1 z.2.2.1 σ q)) && (z.2.2.2.1 == y.2.2.2.1 && (z.2.2.2.2.1 == y.2.2.2.2.1 && (rx_zpc z == rx_zpc y &&
    ((rx_zlv y).all (fun q => bx_scV y.1.length q.2 && (match rx_lk (rx_zlv z) q.1 with
      | some v => bx_eqV z.1 v (bx_sV σ q.2)
      | none => false)) && ((rx_zst y).all (bx_scV y.1.length) && bx_subS z.1 σ (rx_zst z) (rx_zst y))))))))))
def bx_val (σ : List rx_E) (r : Nat → Int) (n : Nat) : Int := match σ[n]? with
  | some e => rx_ev r e
  | none => 0
section BXS
variable {r : Nat → Int} {ad xa : Nat → Nat} {I : rx_I} {σ : List rx_E}
theorem bx_sE_ok {e : rx_E} (h : e.1 < σ.length) : rx_ev r (bx_sE σ e) = rx_ev (bx_val σ r) e := by
  unfold bx_sE
  have hs : σ[e.1]? = some σ[e.1] := List.getElem?_eq_getElem h
  have e1 : bx_val σ r e.1 = rx_ev r σ[e.1] := by
    unfold bx_val
    rw [hs]
  rw [hs]
  show r σ[e.1].1 + (σ[e.1].2 + e.2) = bx_val σ r e.1 + e.2
  rw [e1]
  unfold rx_ev
  omega
theorem bx_eqE_ok {a b : rx_E} (hs : rx_sat I r) (h : bx_eqE I a b = true) : rx_ev r a = rx_ev r b := by
  unfold bx_eqE at h
  rw [Bool.and_eq_true, beq_iff_eq, beq_iff_eq] at h
  rw [← (rx_nm_ok (e := a) hs).1, ← (rx_nm_ok (e := b) hs).1]
  unfold rx_ev
  rw [h.1, h.2]
theorem bx_scV_ok {N M : Nat} {v : rx_V} (h : bx_scV N v = true) : rx_sc N M v := by
  match v, h with
  | .inl none, _ => exact trivial
  | .inl (some k), h => exact absurd (show false = true from h) Bool.false_ne_true
  | .inr (k, e), h =>
    have h9 : e.1 < N := of_decide_eq_true (show decide (e.1 < N) = true from h)
    exact h9
theorem bx_eqV_ok {v w : rx_V} (hs : rx_sat I r) (hw : bx_scV σ.length w = true) (h : bx_eqV I v (bx_sV σ w) = true) : rx_iv r ad xa v = rx_iv (bx_val σ r) ad xa w := by
  match v, w, hw, h with
  | .inl none, .inl none, _, _ => exact rfl
  | .inl none, .inl (some _), _, h => exact absurd (show false = true from h) Bool.false_ne_true
  | .inl (some _), .inl _, _, h => exact absurd (show false = true from h) Bool.false_ne_true
  | .inl none, .inr (0, _), _, h => exact absurd (show false = true from h) Bool.false_ne_true
  | .inl (some _), .inr (0, _), _, h => exact absurd (show false = true from h) Bool.false_ne_true
  | .inl none, .inr (1, _), _, h => exact absurd (show false = true from h) Bool.false_ne_true
  | .inl (some _), .inr (1, _), _, h => exact absurd (show false = true from h) Bool.false_ne_true
  | .inl none, .inr (2, _), _, h => exact absurd (show false = true from h) Bool.false_ne_true
  | .inl (some _), .inr (2, _), _, h => exact absurd (show false = true from h) Bool.false_ne_true
  | .inl none, .inr (_ + 3, _), _, h => exact absurd (show false = true from h) Bool.false_ne_true
  | .inl (some _), .inr (_ + 3, _), _, h => exact absurd (show false = true from h) Bool.false_ne_true
  | .inr (0, a), .inr (0, b), hw, h =>
    have h1 := bx_eqE_ok hs (show bx_eqE I a (bx_sE σ b) = true from h)
    have h2 := bx_sE_ok (r := r) (of_decide_eq_true (show decide (b.1 < σ.length) = true from hw))
    show Value.int (Int32.ofInt (rx_ev r a)) = Value.int (Int32.ofInt (rx_ev (bx_val σ r) b))
    rw [h1, h2]
  | .inr (1, a), .inr (1, b), hw, h =>
    have h1 := bx_eqE_ok hs (show bx_eqE I a (bx_sE σ b) = true from h)
    have h2 := bx_sE_ok (r := r) (of_decide_eq_true (show decide (b.1 < σ.length) = true from hw))
    show Value.long (Int64.ofInt (rx_ev r a)) = Value.long (Int64.ofInt (rx_ev (bx_val σ r) b))
    rw [h1, h2]
  | .inr (2, a), .inr (2, b), hw, h =>
    have h1 : a.2 = b.2 := beq_iff_eq.mp (show (a.2 == b.2) = true from h)
    show Value.ref (xa a.2.toNat) = Value.ref (xa b.2.toNat)
    rw [h1]
  | .inr (3, a), .inr (3, b), hw, h =>
    have h1 := bx_eqE_ok hs (show bx_eqE I a (bx_sE σ b) = true from h)
    have h2 := bx_sE_ok (r := r) (of_decide_eq_true (show decide (b.1 < σ.length) = true from hw))
    show Value.ref (ad (rx_ev r a).toNat) = Value.ref (ad (rx_ev (bx_val σ r) b).toNat)
    rw [h1, h2]
  | .inr (0, _), .inl none, _, h => exact absurd (show false = true from h) Bool.false_ne_true
  | .inr (0, _), .inl (some _), _, h => exact absurd (show false = true from h) Bool.false_ne_true
  | .inr (1, _), .inl none, _, h => exact absurd (show false = true from h) Bool.false_ne_true
  | .inr (1, _), .inl (some _), _, h => exact absurd (show false = true from h) Bool.false_ne_true
  | .inr (2, _), .inl none, _, h => exact absurd (show false = true from h) Bool.false_ne_true
  | .inr (2, _), .inl (some _), _, h => exact absurd (show false = true from h) Bool.false_ne_true
  | .inr (3, _), .inl none, _, h => exact absurd (show false = true from h) Bool.false_ne_true
  | .inr (3, _), .inl (some _), _, h => exact absurd (show false = true from h) Bool.false_ne_true
  | .inr (_ + 4, _), .inl none, _, h => exact absurd (show false = true from h) Bool.false_ne_true
  | .inr (_ + 4, _), .inl (some _), _, h => exact absurd (show false = true from h) Bool.false_ne_true
  | .inr (0, _), .inr (1, _), _, h => exact absurd (show false = true from h) Bool.false_ne_true
  | .inr (0, _), .inr (2, _), _, h => exact absurd (show false = true from h) Bool.false_ne_true
  | .inr (0, _), .inr (_ + 3, _), _, h => exact absurd (show false = true from h) Bool.false_ne_true
  | .inr (1, _), .inr (0, _), _, h => exact absurd (show false = true from h) Bool.false_ne_true
  | .inr (1, _), .inr (2, _), _, h => exact absurd (show false = true from h) Bool.false_ne_true
  | .inr (1, _), .inr (_ + 3, _), _, h => exact absurd (show false = true from h) Bool.false_ne_true
  | .inr (2, _), .inr (0, _), _, h => exact absurd (show false = true from h) Bool.false_ne_true
  | .inr (2, _), .inr (1, _), _, h => exact absurd (show false = true from h) Bool.false_ne_true
  | .inr (2, _), .inr (_ + 3, _), _, h => exact absurd (show false = true from h) Bool.false_ne_true
  | .inr (3, _), .inr (0, _), _, h => exact absurd (show false = true from h) Bool.false_ne_true
  | .inr (3, _), .inr (1, _), _, h => exact absurd (show false = true from h) Bool.false_ne_true
  | .inr (3, _), .inr (2, _), _, h => exact absurd (show false = true from h) Bool.false_ne_true
  | .inr (3, _), .inr (_ + 4, _), _, h => exact absurd (show false = true from h) Bool.false_ne_true
  | .inr (_ + 4, _), .inr (0, _), _, h => exact absurd (show false = true from h) Bool.false_ne_true
  | .inr (_ + 4, _), .inr (1, _), _, h => exact absurd (show false = true from h) Bool.false_ne_true
  | .inr (_ + 4, _), .inr (2, _), _, h => exact absurd (show false = true from h) Bool.false_ne_true
  | .inr (_ + 4, _), .inr (_ + 3, _), _, h => exact absurd (show false = true from h) Bool.false_ne_true
/-- a relation follows -/
theorem bx_ent_ok {F : rx_F} {c : Nat} {a b : rx_E} (hs : rx_sat I r) (hF : rx_facts F r) (hfs : rx_fsc I.length F) (h : bx_ent I F c a b = true) : rx_fact r (c, a, b) := by
  unfold bx_ent at h
  split at h
  · rename_i al ah bl bh e1 e2
    obtain ⟨p1, p2, p3⟩ := rx_bd_ok hs e1
    obtain ⟨q1, q2, q3⟩ := rx_bd_ok hs e2
    split at h
    · refine Classical.byContradiction fun hn => ?_
      have hf : rx_fact r (1, b, a) := by
        have hn : ¬ rx_ev r a < rx_ev r b := hn
        exact (show rx_ev r b ≤ rx_ev r a by omega)
      obtain ⟨I2, F2, g, -⟩ := rx_asm_ok (N := I.length) (Nat.le_of_ble_eq_true rfl) hs hF hfs q3 p3 ⟨q1, q2⟩ ⟨p1, p2⟩ hf
      rw [g] at h
      exact Bool.false_ne_true h
    · refine Classical.byContradiction fun hn => ?_
      have hf : rx_fact r (0, b, a) := by
        have hn : ¬ rx_ev r a ≤ rx_ev r b := hn
        exact (show rx_ev r b < rx_ev r a by omega)
      obtain ⟨I2, F2, g, -⟩ := rx_asm_ok (N := I.length) (Nat.le_of_ble_eq_true rfl) hs hF hfs q3 p3 ⟨q1, q2⟩ ⟨p1, p2⟩ hf
      rw [g] at h
      exact Bool.false_ne_true h
    · exact absurd h Bool.false_ne_true
  · exact absurd h Bool.false_ne_true
theorem bx_subI_ok {τ : List rx_E} (hs : rx_sat I r) : ∀ {bs : List (Int × Int)} {es : List rx_E}, bx_subI I τ bs es = true → bs.length = es.length ∧ ∀ (n : Nat) (lo hi : Int), bs[n]? = some (lo, hi) → ∃ e, es[n]? = some e ∧ lo ≤ rx_ev r e ∧ rx_ev r e ≤ hi
  | [], [], _ => ⟨rfl, fun n lo hi h => by cases h⟩
  | [], _ :: _, h => absurd (show false = true from h) Bool.false_ne_true
  | _ :: _, [], h => absurd (show false = true from h) Bool.false_ne_true
  | b :: bs, e :: es, h => by
    rw [bx_subI, Bool.and_eq_true] at h
    obtain ⟨h1, h2⟩ := h
    obtain ⟨g1, g2⟩ := bx_subI_ok hs h2
    refine ⟨by rw [List.length_cons, List.length_cons, g1], fun n lo hi hn => ?_⟩
    cases n with
    | zero =>
      cases hn
      split at h1
      · rename_i lo2 hi2 hb
        rw [Bool.and_eq_true, decide_eq_true_eq, decide_eq_true_eq] at h1
        obtain ⟨p1, p2, -⟩ := rx_bd_ok hs hb
        exact ⟨e, rfl, by dsimp only at h1; omega, by dsimp only at h1; omega⟩
      · exact absurd h1 Bool.false_ne_true
    | succ n => exact g2 n lo hi hn
theorem bx_subS_ok (hs : rx_sat I r) : ∀ {vs ws : List rx_V}, ws.all (bx_scV σ.length) = true → bx_subS I σ vs ws = true → vs.map (rx_iv r ad xa) = ws.map (rx_iv (bx_val σ r) ad xa)
  | [], [], _, _ => rfl
  | [], _ :: _, _, h => absurd (show false = true from h) Bool.false_ne_true
  | _ :: _, [], _, h => absurd (show false = true from h) Bool.false_ne_true
  | v :: vs, w :: ws, hw, h => by
    rw [List.all_cons, Bool.and_eq_true] at hw
    rw [bx_subS, Bool.and_eq_true] at h
    rw [List.map_cons, List.map_cons, bx_eqV_ok hs hw.1 h.1, bx_subS_ok hs hw.2 h.2]
end BXS
