/-! THE BOX MACHINE: lay-outs by data, and their views -/
/-- what slots hold: from, to, by steps of -/
abbrev bx_S : Type := List (Int × Int × Int × bx_T)
/-- a place: kind, domain of what a row of places holds, what its slots hold (an object's fields by eights | a row's pieces) -/
abbrev bx_Pl : Type := bx_K × Nat × (List (List bx_T) ⊕ bx_S)
def bx_sg : bx_S → Int → bx_T
  | [], _ => (0, 1, 0)
  | s :: l, j => if s.1 ≤ j ∧ j ≤ s.2.1 ∧ (j - s.1) % s.2.2.1 = 0 then s.2.2.2 else bx_sg l j
def bx_n2 (ll : List (List bx_T)) (j : Nat) : Option bx_T := match rx_nth ll (Nat.div j 8) with
  | some l => rx_nth l (Nat.mod j 8)
  | none => none
def bx_dT (p : bx_Pl) (j : Int) : bx_T := match p.2.2 with
  | .inl ll => match bx_n2 ll j.toNat with
    | some t => t
    | none => (0, 1, 0)
  | .inr ss => bx_sg ss j
/-- can a piece not be met by lo, lo + m, .. hi -/
def bx_mi (s : Int × Int × Int × bx_T) (lo hi m : Int) : Bool := decide (s.2.1 < lo) || (decide (hi < s.1) || (decide (m % s.2.2.1 = 0) && decide (¬ (lo - s.1) % s.2.2.1 = 0)))
/-- what holds of both -/
def bx_un (dm : Nat → Int → Bool) (dd : Nat) (a b : bx_T) : Option bx_T := match a, b with
  | (0, l1, h1), (0, l2, h2) => some (0, if l1 ≤ l2 then l1 else l2, if h1 ≤ h2 then h2 else h1)
  | (1, t1, x), (1, t2, _) => if t1 = t2 then some (1, t1, x) else if dm dd t1 = true ∧ dm dd t2 = true then some (2, (dd : Int), 0) else none
  | (1, t1, _), (2, d2, _) => if d2 = (dd : Int) ∧ dm dd t1 = true then some (2, (dd : Int), 0) else none
  | (2, d1, _), (1, t2, _) => if d1 = (dd : Int) ∧ dm dd t2 = true then some (2, (dd : Int), 0) else none
  | (2, d1, x), (2, d2, _) => if d1 = d2 then some (2, d1, x) else none
  | _, _ => none
def bx_rd (dm : Nat → Int → Bool) (dd : Nat) : bx_S → Int → Int → Int → Option bx_T → Option bx_T
  | [], _, _, _, acc => acc
  | s :: l, lo, hi, m, acc => match bx_mi s lo hi m with
    | true => bx_rd dm dd l lo hi m acc
    | false => match acc with
      | none => bx_rd dm dd l lo hi m (some s.2.2.2)
      | some a => match bx_un dm dd a s.2.2.2 with
        | some u => bx_rd dm dd l lo hi m (some u)
        | none => none
/-- the one piece that holds all of lo, lo + m, .. hi -/
def bx_wr : bx_S → Int → Int → Int → Option bx_T
  | [], _, _, _ => none
  | s :: l, lo, hi, m => match bx_mi s lo hi m with
    | true => bx_wr l lo hi m
    | false => if s.1 ≤ lo ∧ hi ≤ s.2.1 ∧ m % s.2.2.1 = 0 ∧ (lo - s.1) % s.2.2.1 = 0 then some s.2.2.2 else none
/-- a single slot has no step -/
def bx_m0 (lo hi m : Int) : Int := if lo = hi then 0 else m
theorem bx_m0_ok {lo hi m j : Int} (h1 : lo ≤ j) (h2 : j ≤ hi) (h3 : (j - lo) % m = 0) : (j - lo) % bx_m0 lo hi m = 0 := by
  unfold bx_m0
  split
  · rw [show j - lo = 0 by omega, Int.zero_emod]
  · exact h3
def bx_dR (dm : Nat → Int → Bool) (p : bx_Pl) (lo hi m : Int) : Option bx_T := match p.2.2 with
  | .inl ll => if lo = hi ∧ 0 ≤ lo then bx_n2 ll lo.toNat else none
  | .inr ss => bx_rd dm p.2.1 ss lo hi (bx_m0 lo hi m) none
def bx_dW (p : bx_Pl) (lo hi m : Int) : Option bx_T := match p.2.2 with
  | .inl ll => if lo = hi ∧ 0 ≤ lo then bx_n2 ll lo.toNat else none
  | .inr ss => bx_wr ss lo hi (bx_m0 lo hi m)
/-- a place's data as seen from a place q before it -/
def bx_shT (q : Int) (t : bx_T) : bx_T := match t with
  | (1, o, x) => (1, q + o, x)
  | t => t
def bx_shP (q : Int) (p : bx_Pl) : bx_Pl := (p.1, p.2.1, match p.2.2 with
  | .inl ll => .inl (ll.map (fun l => l.map (bx_shT q)))
  | .inr ss => .inr (ss.map (fun s => (s.1, s.2.1, s.2.2.1, bx_shT q s.2.2.2))))
theorem bx_mi_ok {s : Int × Int × Int × bx_T} {lo hi m j : Int} (h1 : lo ≤ j) (h2 : j ≤ hi) (h3 : (j - lo) % m = 0) (h4 : s.1 ≤ j ∧ j ≤ s.2.1 ∧ (j - s.1) % s.2.2.1 = 0) : bx_mi s lo hi m = false := by
  unfold bx_mi
  rw [decide_eq_false (by omega), decide_eq_false (by omega), Bool.false_or, Bool.false_or]
  refine Bool.eq_false_iff.mpr fun h => ?_
  rw [Bool.and_eq_true, decide_eq_true_eq, decide_eq_true_eq] at h
  refine h.2 ?_
  have e1 : s.2.2.1 ∣ m := Int.dvd_of_emod_eq_zero h.1
  have e2 : m ∣ j - lo := Int.dvd_of_emod_eq_zero h3
  have e3 : s.2.2.1 ∣ j - s.1 := Int.dvd_of_emod_eq_zero h4.2.2
  have e4 : s.2.2.1 ∣ (j - s.1) - (j - lo) := Int.dvd_sub e3 (Int.dvd_trans e1 e2)
  rw [show (j - s.1) - (j - lo) = lo - s.1 by omega] at e4
  exact Int.emod_eq_zero_of_dvd e4
section BXV
variable {L : bx_L} {q : Int}
theorem bx_okR_un {dm : Nat → Int → Bool} {dd : Nat} (hdm : dm = L.2.2.2) (hq : q = 0) {a b u : bx_T} {v : Int} (h : bx_un dm dd a b = some u) : (bx_okR L q a v → bx_okR L q u v) ∧ (bx_okR L q b v → bx_okR L q u v) := by
  subst hdm; subst hq
  unfold bx_un at h
  split at h
  · rename_i l1 h1 l2 h2
    cases h
    refine ⟨fun h => ?_, fun h => ?_⟩
    · have h : l1 ≤ v ∧ v ≤ h1 := h
      show (if _ then _ else _ : Int) ≤ v ∧ v ≤ (if _ then _ else _ : Int)
      constructor <;> split <;> omega
    · have h : l2 ≤ v ∧ v ≤ h2 := h
      show (if _ then _ else _ : Int) ≤ v ∧ v ≤ (if _ then _ else _ : Int)
      constructor <;> split <;> omega
  · rename_i t1 x t2 y
    split at h
    · rename_i e
      subst e
      cases h
      exact ⟨id, id⟩
    · split at h
      · rename_i hc
        cases h
        refine ⟨fun h => ?_, fun h => ?_⟩
        · have h : v = 0 + t1 := h
          show L.2.2.2 ((dd : Int).toNat) v = true
          rw [h, Int.zero_add, Int.toNat_natCast]
          exact hc.1
        · have h : v = 0 + t2 := h
          show L.2.2.2 ((dd : Int).toNat) v = true
          rw [h, Int.zero_add, Int.toNat_natCast]
          exact hc.2
      · cases h
  · rename_i t1 x d2 y
    split at h
    · rename_i hc
      obtain ⟨hc1, hc2⟩ := hc
      subst hc1
      cases h
      refine ⟨fun h => ?_, id⟩
      have h : v = 0 + t1 := h
      show L.2.2.2 ((dd : Int).toNat) v = true
      rw [h, Int.zero_add, Int.toNat_natCast]
      exact hc2
    · cases h
  · rename_i d1 x t2 y
    split at h
    · rename_i hc
      obtain ⟨hc1, hc2⟩ := hc
      subst hc1
      cases h
      refine ⟨id, fun h => ?_⟩
      have h : v = 0 + t2 := h
      show L.2.2.2 ((dd : Int).toNat) v = true
      rw [h, Int.zero_add, Int.toNat_natCast]
      exact hc2
    · cases h
  · split at h
    · rename_i e
      subst e
      cases h
      exact ⟨id, id⟩
    · cases h
  · cases h
/-- the same, where no place is met -/
theorem bx_okR_unN {dm : Nat → Int → Bool} {dd : Nat} (hdm : ∀ t, dm dd t = false) {a b u : bx_T} {v : Int} (h : bx_un dm dd a b = some u) : (bx_okR L q a v → bx_okR L q u v) ∧ (bx_okR L q b v → bx_okR L q u v) := by
  unfold bx_un at h
  split at h
  · rename_i l1 h1 l2 h2
    cases h
    refine ⟨fun h => ?_, fun h => ?_⟩
    · have h : l1 ≤ v ∧ v ≤ h1 := h
      show (if _ then _ else _ : Int) ≤ v ∧ v ≤ (if _ then _ else _ : Int)
      constructor <;> split <;> omega
    · have h : l2 ≤ v ∧ v ≤ h2 := h
      show (if _ then _ else _ : Int) ≤ v ∧ v ≤ (if _ then _ else _ : Int)
      constructor <;> split <;> omega
  · split at h
    · rename_i e
      subst e
      cases h
      exact ⟨id, id⟩
    · rw [if_neg (fun hc => by rw [hdm] at hc; exact Bool.false_ne_true hc.1)] at h
      cases h
  · rw [if_neg (fun hc => by rw [hdm] at hc; exact Bool.false_ne_true hc.2)] at h
    cases h
  · rw [if_neg (fun hc => by rw [hdm] at hc; exact Bool.false_ne_true hc.2)] at h
    cases h
  · split at h
    · rename_i e
      subst e
      cases h
      exact ⟨id, id⟩
    · cases h
  · cases h
theorem bx_rd_ok {dm : Nat → Int → Bool} {dd : Nat} (hun : ∀ {a b u : bx_T} {v : Int}, bx_un dm dd a b = some u → (bx_okR L q a v → bx_okR L q u v) ∧ (bx_okR L q b v → bx_okR L q u v)) {lo hi m j v : Int} (h1 : lo ≤ j) (h2 : j ≤ hi) (h3 : (j - lo) % m = 0) : ∀ {ss : bx_S} {acc : Option bx_T} {t : bx_T}, bx_rd dm dd ss lo hi m acc = some t → (∀ a, acc = some a → bx_okR L q a v → bx_okR L q t v) ∧ (bx_okR L q (bx_sg ss j) v → ¬ bx_sg ss j = (0, 1, 0) → bx_okR L q t v)
  | [], acc, t, h => by
    have h : acc = some t := h
    subst h
    exact ⟨fun a ha => by cases ha; exact id, fun _ hn => absurd rfl hn⟩
  | s :: l, acc, t, h => by
    have hcase : bx_sg (s :: l) j = if s.1 ≤ j ∧ j ≤ s.2.1 ∧ (j - s.1) % s.2.2.1 = 0 then s.2.2.2 else bx_sg l j := rfl
    unfold bx_rd at h
    split at h
    · rename_i hm
      obtain ⟨g1, g2⟩ := bx_rd_ok hun h1 h2 h3 h
      refine ⟨g1, ?_⟩
      rw [hcase, if_neg (fun hc => by rw [bx_mi_ok h1 h2 h3 hc] at hm; exact Bool.false_ne_true hm)]
      exact g2
    · split at h
      · obtain ⟨g1, g2⟩ := bx_rd_ok hun h1 h2 h3 h
        refine ⟨fun a ha => (by cases ha), ?_⟩
        rw [hcase]
        split
        · exact fun hv _ => g1 _ rfl hv
        · exact g2
      · rename_i a
        split at h
        · rename_i u hu
          obtain ⟨g1, g2⟩ := bx_rd_ok hun h1 h2 h3 h
          refine ⟨fun a' ha => ?_, ?_⟩
          · cases ha
            exact fun hv => g1 _ rfl ((hun hu).1 hv)
          · rw [hcase]
            split
            · exact fun hv _ => g1 _ rfl ((hun hu).2 hv)
            · exact g2
        · cases h
theorem bx_wr_ok {lo hi m j : Int} (h1 : lo ≤ j) (h2 : j ≤ hi) (h3 : (j - lo) % m = 0) : ∀ {ss : bx_S} {t : bx_T}, bx_wr ss lo hi m = some t → bx_sg ss j = t
  | [], t, h => by cases h
  | s :: l, t, h => by
    have hcase : bx_sg (s :: l) j = if s.1 ≤ j ∧ j ≤ s.2.1 ∧ (j - s.1) % s.2.2.1 = 0 then s.2.2.2 else bx_sg l j := rfl
    rw [bx_wr] at h
    split at h
    · rename_i hm
      rw [hcase, if_neg (fun hc => by rw [bx_mi_ok h1 h2 h3 hc] at hm; exact Bool.false_ne_true hm)]
      exact bx_wr_ok h1 h2 h3 h
    · split at h
      · rename_i hc
        obtain ⟨c1, c2, c3, c4⟩ := hc
        cases h
        have e1 : s.2.2.1 ∣ m := Int.dvd_of_emod_eq_zero c3
        have e2 : m ∣ j - lo := Int.dvd_of_emod_eq_zero h3
        have e3 : s.2.2.1 ∣ lo - s.1 := Int.dvd_of_emod_eq_zero c4
        have e4 : s.2.2.1 ∣ (j - lo) + (lo - s.1) := Int.dvd_add (Int.dvd_trans e1 e2) e3
        rw [show (j - lo) + (lo - s.1) = j - s.1 by omega] at e4
        rw [hcase, if_pos ⟨by omega, by omega, Int.emod_eq_zero_of_dvd e4⟩]
      · cases h
/-- what a place's data say of its slots -/
theorem bx_dR_ok {dm : Nat → Int → Bool} {p : bx_Pl} (hun : ∀ {a b u : bx_T} {v : Int}, bx_un dm p.2.1 a b = some u → (bx_okR L q a v → bx_okR L q u v) ∧ (bx_okR L q b v → bx_okR L q u v)) {lo hi m j v : Int} {t : bx_T} (h : bx_dR dm p lo hi m = some t) (h1 : lo ≤ j) (h2 : j ≤ hi) (h3 : (j - lo) % m = 0) (hv : bx_okR L q (bx_dT p j) v) : bx_okR L q t v := by
  unfold bx_dR at h
  unfold bx_dT at hv
  split at h
  · rename_i ll hp
    rw [hp] at hv
    dsimp only at hv
    split at h
    · rename_i hc
      have e : j = lo := by omega
      subst e
      rw [h] at hv
      exact hv
    · cases h
  · rename_i ss hp
    rw [hp] at hv
    dsimp only at hv
    refine (bx_rd_ok hun h1 h2 (bx_m0_ok h1 h2 h3) h).2 hv fun h0 => ?_
    rw [h0] at hv
    have hv : (1 : Int) ≤ v ∧ v ≤ 0 := hv
    omega
theorem bx_dW_ok {p : bx_Pl} {lo hi m j : Int} {t : bx_T} (h : bx_dW p lo hi m = some t) (h1 : lo ≤ j) (h2 : j ≤ hi) (h3 : (j - lo) % m = 0) : bx_dT p j = t := by
  unfold bx_dW at h
  unfold bx_dT
  split at h
  · rename_i ll hp
    split at h
    · rename_i hc
      have e : j = lo := by omega
      subst e
      rw [h]
    · cases h
  · rename_i ss hp
    exact bx_wr_ok h1 h2 (bx_m0_ok h1 h2 h3) h
theorem bx_n2_map {g : bx_T → bx_T} {ll : List (List bx_T)} {j : Nat} : bx_n2 (ll.map (fun l => l.map g)) j = (bx_n2 ll j).map g := by
  have hn : ∀ {α β : Type} (g : α → β) (l : List α) (k : Nat), rx_nth (l.map g) k = (rx_nth l k).map g := by
    intro α β g l
    induction l with
    | nil => intro k; rfl
    | cons a l ih =>
      intro k
      cases k with
      | zero => rfl
      | succ k => exact ih k
  unfold bx_n2
  rw [hn]
  cases rx_nth ll (Nat.div j 8) with
  | none => rfl
  | some l => exact hn g l _
theorem bx_sg_map {ss : bx_S} {j : Int} : bx_sg (ss.map (fun s => (s.1, s.2.1, s.2.2.1, bx_shT q s.2.2.2))) j = bx_shT q (bx_sg ss j) := by
  induction ss with
  | nil => rfl
  | cons s l ih =>
    show (if s.1 ≤ j ∧ j ≤ s.2.1 ∧ (j - s.1) % s.2.2.1 = 0 then bx_shT q s.2.2.2 else bx_sg (l.map _) j) = bx_shT q (if _ then _ else _)
    split
    · rfl
    · exact ih
theorem bx_dT_sh {p : bx_Pl} {j : Int} : bx_dT (bx_shP q p) j = bx_shT q (bx_dT p j) := by
  obtain ⟨k, dd, sp⟩ := p
  unfold bx_dT bx_shP
  cases sp with
  | inl ll =>
    dsimp only
    rw [bx_n2_map]
    cases bx_n2 ll j.toNat with
    | none => rfl
    | some t => rfl
  | inr ss => exact bx_sg_map
/-- seen from q or from 0: the same -/
theorem bx_okT_sh {t : bx_T} {v : Int} : bx_okT L (bx_shT q t) v ↔ bx_okR L q t v := by
  obtain ⟨k, a, b⟩ := t
  match k with
  | 0 => exact Iff.rfl
  | 1 => exact Iff.rfl
  | k + 2 => exact Iff.rfl
end BXV
/-- lay-out and views out of data: places; domains; what is seen from a domain's places -/
abbrev bx_Dt : Type := (Nat → Option bx_Pl) × (Nat → List Int) × (Nat → Int → Option bx_Pl)
def bx_dmf (ds : Nat → List Int) (d : Nat) (q : Int) : Bool := match Nat.ble 2000000 d with
  | true => decide (q = 0)
  | false => (ds d).any (fun a => decide (a = q))
def bx_Lof (np : Nat) (t : bx_Dt) : bx_L := (fun p => match t.1 p with
  | some x => x.1
  | none => .inr (0, 0, 0), np, fun p j => match t.1 p with
  | some x => bx_dT x j
  | none => (0, 1, 0), bx_dmf t.2.1)
def bx_see (np : Nat) (t : bx_Dt) (d : Option Nat) (off : Int) : Option bx_Pl := match d with
  | none => if 0 ≤ off ∧ off < (np : Int) then t.1 off.toNat else none
  | some d => t.2.2 d off
def bx_nod : Nat → Int → Bool := fun _ _ => false
def bx_dmo (t : bx_Dt) (d : Option Nat) : Nat → Int → Bool := match d with
  | none => bx_dmf t.2.1
  | some _ => bx_nod
def bx_Vof (np : Nat) (t : bx_Dt) : bx_V := (fun d off => (bx_see np t d off).map (fun p => p.1),
  fun d off lo hi m => match bx_see np t d off with
    | some p => bx_dR (bx_dmo t d) p lo hi m
    | none => none,
  fun d off lo hi m => match bx_see np t d off with
    | some p => bx_dW p lo hi m
    | none => none)
/-- the data fit: a domain's places are there, and are seen as they are -/
def bx_Dok (np : Nat) (t : bx_Dt) : Prop := (∀ d q, bx_dmf t.2.1 d q = true → 0 ≤ q ∧ q ≤ (np : Int) + 1000) ∧ ∀ (d : Nat) (off : Int) (p : bx_Pl), t.2.2 d off = some p → ∀ q : Int, bx_dmf t.2.1 d q = true → 0 ≤ q + off ∧ q + off < (np : Int) ∧ t.1 (q + off).toNat = some (bx_shP q p)
theorem bx_shP0 {p : bx_Pl} : bx_shP 0 p = p := by
  have h0 : ∀ t : bx_T, bx_shT 0 t = t := fun t => by
    obtain ⟨k, a, b⟩ := t
    match k with
    | 0 => rfl
    | 1 => show (1, 0 + a, b) = (1, a, b); rw [Int.zero_add]
    | k + 2 => rfl
  obtain ⟨k, dd, sp⟩ := p
  unfold bx_shP
  have h1 : bx_shT 0 = id := funext h0
  cases sp with
  | inl ll => rw [h1]; simp
  | inr ss => rw [h1]; simp
theorem bx_VOK_of {np : Nat} {t : bx_Dt} (h : bx_Dok np t) : bx_VOK (bx_Lof np t) (bx_Vof np t) := by
  have hsee : ∀ (d : Option Nat) (off : Int) (p : bx_Pl) (q : Int), bx_see np t d off = some p → bx_in (bx_Lof np t) d q → 0 ≤ q + off ∧ (q + off).toNat < np ∧ t.1 (q + off).toNat = some (bx_shP q p) := fun d off p q hs hin => by
    unfold bx_see at hs
    cases d with
    | none =>
      have hin : q = 0 := hin
      subst hin
      dsimp only at hs
      split at hs
      · rename_i hc
        rw [Int.zero_add, bx_shP0]
        exact ⟨hc.1, by omega, hs⟩
      · cases hs
    | some d =>
      obtain ⟨a, b, c⟩ := h.2 d off p hs q hin
      exact ⟨a, by omega, c⟩
  refine ⟨fun d off k hk q hin => ?_, fun d off lo hi m tt ht q hin j v h1 h2 h3 hv => ?_, fun d off lo hi m tt ht q hin j v h1 h2 h3 hv => ?_, h.1, fun d hd => ?_⟩
  · obtain ⟨p, hp, rfl⟩ := Option.map_eq_some_iff.mp hk
    obtain ⟨a, b, c⟩ := hsee d off p q hp hin
    refine ⟨a, b, ?_⟩
    show (match t.1 (q + off).toNat with
      | some x => x.1
      | none => .inr (0, 0, 0) : bx_K) = p.1
    rw [c]
    rfl
  · have ht : (match bx_see np t d off with
      | some p => bx_dR (bx_dmo t d) p lo hi m
      | none => none) = some tt := ht
    split at ht
    · rename_i p hp
      obtain ⟨a, b, c⟩ := hsee d off p q hp hin
      have hv : bx_okT (bx_Lof np t) (match t.1 (q + off).toNat with
        | some x => bx_dT x j
        | none => (0, 1, 0)) v := hv
      rw [c] at hv
      have hv : bx_okT (bx_Lof np t) (bx_dT (bx_shP q p) j) v := hv
      rw [bx_dT_sh, bx_okT_sh] at hv
      refine bx_dR_ok (fun {a b u v} hu => ?_) ht h1 h2 h3 hv
      cases d with
      | none => exact bx_okR_un (L := bx_Lof np t) rfl hin hu
      | some d => exact bx_okR_unN (fun _ => rfl) hu
    · cases ht
  · have ht : (match bx_see np t d off with
      | some p => bx_dW p lo hi m
      | none => none) = some tt := ht
    split at ht
    · rename_i p hp
      obtain ⟨a, b, c⟩ := hsee d off p q hp hin
      show bx_okT (bx_Lof np t) (match t.1 (q + off).toNat with
        | some x => bx_dT x j
        | none => (0, 1, 0)) v
      rw [c]
      show bx_okT (bx_Lof np t) (bx_dT (bx_shP q p) j) v
      rw [bx_dT_sh, bx_okT_sh, bx_dW_ok ht h1 h2 h3]
      exact hv
    · cases ht
  · show bx_dmf t.2.1 d 0 = true
    unfold bx_dmf
    rw [Nat.ble_eq_true_of_le hd]
    rfl
