/-! THE BOX MACHINE: what reads and writes cells -/
/-- a field: class, place, kind of its type (0 int, 1 boolean, 2 long, 3 reference), final, by a nest mate -/
abbrev rx_Q : Type := Nat × Nat × Nat × Bool × Bool
def rx_tyc (ty : FieldType) : Nat := match ty with
  | .int => 0
  | .boolean => 1
  | .long => 2
  | .object _ => 3
  | .array _ => 3
  | _ => 9
/-- a field of a method's pool is what the table says -/
def rx_Fok (s : State) (args : Array Value) (Ts : List Jvm.Cond) (own : String) (cl : List vw_C) (idx : Nat) (q : rx_Q) : Prop :=
  ∃ (C : String) (T : u_T) (N : Nat) (ty : Nat → FieldType), cl[q.1]? = some (C, T, N) ∧ q.2.1 < N ∧ (∀ w ∈ u_ws C T N, w ∈ Ts) ∧ (∀ k, k < N → parseFieldDescriptor (T k).2.2.1 = some (ty k)) ∧ (∀ a, a < N → ∀ b, b < N → a ≠ b → (T a).2.1 ≠ (T b).2.1) ∧
    rx_tyc (ty q.2.1) = q.2.2.1 ∧ (T q.2.1).2.2.2 = q.2.2.2.1 ∧ (q.2.2.2.1 = true → q.2.2.2.2 = false → (T q.2.1).1 = own) ∧
    ((q.2.2.2.2 = false ∧ (Jvm.Cond.fieldLink own idx (T q.2.1).1 (T q.2.1).2.1 (T q.2.1).2.2.1).before args s = true) ∨ (q.2.2.2.2 = true ∧ ∃ host : String, (Jvm.Cond.fieldLinkNest own idx (T q.2.1).1 (T q.2.1).2.1 (T q.2.1).2.2.1 host).before args s = true))
/-- views, for all places of a domain (none: for the place itself) further on by an offset: the kind; what slots from .. to by steps hold, read; what may be written -/
abbrev bx_V : Type := (Option Nat → Int → Option bx_K) × (Option Nat → Int → Int → Int → Int → Option bx_T) × (Option Nat → Int → Int → Int → Int → Option bx_T)
def bx_in (L : bx_L) (d : Option Nat) (q : Int) : Prop := match d with
  | none => q = 0
  | some k => L.2.2.2 k q = true
def bx_okR (L : bx_L) (q : Int) (t : bx_T) (v : Int) : Prop := match t.1 with
  | 0 => t.2.1 ≤ v ∧ v ≤ t.2.2
  | 1 => v = q + t.2.1
  | _ => L.2.2.2 t.2.1.toNat v = true
def bx_VOK (L : bx_L) (V : bx_V) : Prop :=
  (∀ (d : Option Nat) (off : Int) (k : bx_K), V.1 d off = some k → ∀ q : Int, bx_in L d q → 0 ≤ q + off ∧ (q + off).toNat < L.2.1 ∧ L.1 (q + off).toNat = k) ∧
  (∀ (d : Option Nat) (off lo hi m : Int) (t : bx_T), V.2.1 d off lo hi m = some t → ∀ q : Int, bx_in L d q → ∀ j v : Int, lo ≤ j → j ≤ hi → (j - lo) % m = 0 → bx_okT L (L.2.2.1 (q + off).toNat j) v → bx_okR L q t v) ∧
  (∀ (d : Option Nat) (off lo hi m : Int) (t : bx_T), V.2.2 d off lo hi m = some t → ∀ q : Int, bx_in L d q → ∀ j v : Int, lo ≤ j → j ≤ hi → (j - lo) % m = 0 → bx_okR L q t v → bx_okT L (L.2.2.1 (q + off).toNat j) v) ∧
  (∀ (d : Nat) (q : Int), L.2.2.2 d q = true → 0 ≤ q ∧ q ≤ (L.2.1 : Int) + 1000) ∧ ∀ d : Nat, 2000000 ≤ d → L.2.2.2 d 0 = true
def bx_fd : List rx_C → Nat → Option Nat
  | [], _ => none
  | q :: l, n => if q.1.1.1 = n ∧ q.1.1.2 = 0 ∧ 1000000 ≤ q.1.2 then some (q.1.2 - 1000000) else bx_fd l n
def bx_dm (ht : List rx_C) (n : Nat) : Option (Option Nat) := if n = 0 then some none else match bx_fd ht n with
  | some d => some (some d)
  | none => none
def bx_ck : List rx_C → rx_E → Nat → Option rx_V
  | [], _, _ => none
  | q :: l, e, k => if q.1.1.1 = e.1 ∧ q.1.1.2 = e.2 ∧ q.1.2 = k then some q.2 else bx_ck l e k
def bx_pp (st : List rx_V) : Option (rx_E × List rx_V) := match st with
  | .inr (3, e) :: t => some (e, t)
  | _ => none
theorem bx_pp_ok {st t : List rx_V} {e : rx_E} (h : bx_pp st = some (e, t)) : st = .inr (3, e) :: t := by
  unfold bx_pp at h
  split at h
  · cases h; rfl
  · cases h
theorem bx_notE {q : rx_C} (h : q.1.2 < 3000000) : ¬ bx_isE q = true := fun h2 => absurd (Nat.le_of_ble_eq_true h2) (Nat.not_le_of_lt h)
theorem bx_isE_le {q : rx_C} (h : bx_isE q = true) : 3000000 ≤ q.1.2 := Nat.le_of_ble_eq_true h
/-- an index that is a multiple, but for an offset: the least one from lo on, and the step -/
def bx_str (F : rx_F) (ix : rx_E) (lo : Int) : Int × Int := match F.find? (fun f => Nat.ble 5 f.1 && (Nat.ble f.1 999999 && (f.2.1.1 == ix.1 && !(ix.1 == 0)))) with
  | some (k, (_, o), _) => (lo + (ix.2 - o - lo) % ((k : Int) - 4), (k : Int) - 4)
  | none => (lo, 1)
theorem bx_str0 {x y c lo m : Int} (hm : 0 < m) (h : x = m * y + c) (hlo : lo ≤ x) : lo + (c - lo) % m ≤ x ∧ (x - (lo + (c - lo) % m)) % m = 0 := by
  have e1 : (x - lo) % m = (c - lo) % m := by
    rw [h, show m * y + c - lo = c - lo + m * y by omega, Int.add_mul_emod_self_left]
  have e2 := Int.emod_add_mul_ediv (x - lo) m
  have e3 : 0 ≤ (x - lo) / m := Int.ediv_nonneg (by omega) (by omega)
  have e4 : 0 ≤ m * ((x - lo) / m) := Int.mul_nonneg (by omega) e3
  rw [e1] at e2
  refine ⟨by omega, ?_⟩
  rw [show x - (lo + (c - lo) % m) = m * ((x - lo) / m) by omega, Int.mul_emod_right]
theorem bx_str_ok {F : rx_F} {ix : rx_E} {lo : Int} {r : Nat → Int} (hF : rx_facts F r) (h : lo ≤ rx_ev r ix) : (bx_str F ix lo).1 ≤ rx_ev r ix ∧ (rx_ev r ix - (bx_str F ix lo).1) % (bx_str F ix lo).2 = 0 := by
  unfold bx_str
  split
  · rename_i k n o b hf
    have h1 := List.find?_some hf
    have h2 := hF _ (List.mem_of_find?_eq_some hf)
    simp only [Bool.and_eq_true, beq_iff_eq] at h1
    obtain ⟨k1, k2, k3, -⟩ := h1
    have k1 := Nat.le_of_ble_eq_true k1
    have k2 := Nat.le_of_ble_eq_true k2
    obtain ⟨j, rfl⟩ : ∃ j, k = j + 4 := ⟨k - 4, by omega⟩
    have h2 : if j < 999996 then rx_ev r (n, o) = (j : Int) * rx_ev r b else rx_ev r (n, o) = rx_ev r b + rx_ev r (bx_de ((j + 4) / 1000000)) := h2
    rw [if_pos (by omega)] at h2
    have e1 : (((j + 4 : Nat) : Int) - 4) = (j : Int) := by omega
    rw [e1]
    refine bx_str0 (y := rx_ev r b) (by omega) ?_ h
    rw [← h2, k3]
    unfold rx_ev
    dsimp only
    omega
  · exact ⟨h, Int.emod_one _⟩
/-- a slot's value comes as a new symbol, or as a place -/
def bx_nv (tc n np : Nat) (t : bx_T) (I : rx_I) (ht : List rx_C) : Option (rx_I × List rx_C × rx_V) := match t with
  | (0, lo, hi) => if tc ≤ 1 then some (I ++ [(lo, hi)], ht, .inr (0, (I.length, 0))) else if tc = 2 then some (I ++ [(lo, hi)], ht, .inr (1, (I.length, 0))) else none
  | (1, o, _) => if 3 ≤ tc then some (I, ht, .inr (3, (n, o))) else none
  | (2, d, _) => if 3 ≤ tc ∧ d.toNat < 1000000 then some (I ++ [(0, (np : Int) + 1000)], (((I.length, 0), 1000000 + d.toNat), .inl none) :: ht, .inr (3, (I.length, 0))) else none
  | _ => none
def bx_nxk (I : rx_I) (ht : List rx_C) (z : rx_Z) (d : Nat) (st : List rx_V) : rx_Z := match z with
  | (_, F1, _, c0, s0, pc0, lv0, _) => (I, F1, ht, c0, s0, pc0 + d, lv0, st)
/-- does a value fit a slot -/
def bx_bb (b : Option (Int × Int)) (lo hi : Int) : Bool := match b with
  | some (a, c) => decide (lo ≤ a) && decide (c ≤ hi)
  | none => false
def bx_fits (dmf : Nat → Int → Bool) (I : rx_I) (ht : List rx_C) (tc n : Nat) (t : bx_T) (v : rx_V) : Bool := match v with
  | .inr (0, e) => t.1 == 0 && (bx_bb (rx_bi I e) t.2.1 t.2.2 && (tc == 0 || (tc == 1 && bx_bb (rx_bi I e) 0 1)))
  | .inr (1, e) => t.1 == 0 && (bx_bb (rx_bl I e) t.2.1 t.2.2 && tc == 2)
  | .inr (3, e) => tc == 3 && ((t.1 == 1 && (e.1 == n && e.2 == t.2.1)) || (t.1 == 2 && ((e.1 == 0 && dmf t.2.1.toNat e.2) || (e.2 == 0 && bx_fd ht e.1 == some t.2.1.toNat))))
  | _ => false
theorem bx_fd_ok {D : bx_D} {ad xa : Nat → Nat} {S : Nat → Int → Int} {N : Nat} {r : Nat → Int} {n d : Nat} : ∀ {ht : List rx_C}, bx_kns D ad xa S N ht r → bx_fd ht n = some d → D.2.1.2.2.2 d (r n) = true ∧ n < N
  | [], _, h => by cases h
  | q :: l, hk, h => by
    rw [bx_fd] at h
    split at h
    · rename_i hc
      have h0 := Option.some.inj h
      subst h0
      obtain ⟨h1, h2, h3⟩ := hk q List.mem_cons_self
      unfold bx_kn at h3
      rw [if_pos hc.2.2] at h3
      have e : rx_ev r q.1.1 = r n := by
        unfold rx_ev
        rw [hc.1, hc.2.1, Int.add_zero]
      rw [e] at h3
      exact ⟨h3, by rw [← hc.1]; exact h1⟩
    · exact bx_fd_ok (fun q hq => hk q (List.mem_cons_of_mem _ hq)) h
theorem bx_dm_ok {D : bx_D} {ad xa : Nat → Nat} {S : Nat → Int → Int} {N : Nat} {I : rx_I} {r : Nat → Int} {n : Nat} {d : Option Nat} {ht : List rx_C} (hs : rx_sat I r) (hk : bx_kns D ad xa S N ht r) (h : bx_dm ht n = some d) : bx_in D.2.1 d (r n) := by
  unfold bx_dm at h
  split at h
  · rename_i hn
    cases h
    subst hn
    exact hs.1
  · split at h
    · rename_i d0 hd
      cases h
      exact (bx_fd_ok hk hd).1
    · cases h
theorem bx_ck_ok {e : rx_E} {k : Nat} {v : rx_V} : ∀ {ht : List rx_C}, bx_ck ht e k = some v → ((e, k), v) ∈ ht
  | [], h => by cases h
  | q :: l, h => by
    rw [bx_ck] at h
    split at h
    · rename_i hc
      cases h
      obtain ⟨⟨⟨a, b⟩, c⟩, d⟩ := q
      obtain ⟨h1, h2, h3⟩ := hc
      dsimp only at h1 h2 h3
      subst h1; subst h2; subst h3
      exact List.mem_cons_self
    · exact List.mem_cons_of_mem _ (bx_ck_ok h)
theorem bx_bb_ok {b : Option (Int × Int)} {lo hi : Int} (h : bx_bb b lo hi = true) : ∃ a c : Int, b = some (a, c) ∧ lo ≤ a ∧ c ≤ hi := by
  unfold bx_bb at h
  split at h
  · rename_i a c
    rw [Bool.and_eq_true, decide_eq_true_eq, decide_eq_true_eq] at h
    exact ⟨a, c, rfl, h.1, h.2⟩
  · exact absurd h Bool.false_ne_true
/-- a value that fits: what it is worth, and that it is what the slot may hold -/
theorem bx_fits_ok {D : bx_D} {ad xa : Nat → Nat} {S : Nat → Int → Int} {I : rx_I} {r : Nat → Int} {ht : List rx_C} {tc n : Nat} {t : bx_T} {v : rx_V} (hs : rx_sat I r) (hk : bx_kns D ad xa S I.length ht r) (h : bx_fits D.2.1.2.2.2 I ht tc n t v = true) :
    rx_iv r ad xa v = bx_fv ad tc (bx_num r v) ∧ bx_okR D.2.1 (r n) t (bx_num r v) ∧ ∀ ty : FieldType, rx_tyc ty = tc → narrow ty (rx_iv r ad xa v) = rx_iv r ad xa v ∧ fits ty (rx_iv r ad xa v) = true := by
  unfold bx_fits at h
  split at h
  · rename_i e
    simp only [Bool.and_eq_true, Bool.or_eq_true, beq_iff_eq] at h
    obtain ⟨h1, h2, h3⟩ := h
    obtain ⟨a, c, hb, g1, g2⟩ := bx_bb_ok h2
    obtain ⟨b1, b2, b3, b4⟩ := rx_bi_ok hs hb
    have hok : bx_okR D.2.1 (r n) t (rx_ev r e) := by
      unfold bx_okR
      rw [h1]
      exact ⟨by omega, by omega⟩
    rcases h3 with h3 | ⟨h3, h4⟩
    · subst h3
      refine ⟨rfl, hok, fun ty hty => ?_⟩
      cases ty <;> first | exact ⟨rfl, rfl⟩ | cases hty
    · subst h3
      obtain ⟨a2, c2, hb2, k1, k2⟩ := bx_bb_ok h4
      rw [hb] at hb2
      cases hb2
      refine ⟨rfl, hok, fun ty hty => ?_⟩
      have h01 : rx_ev r e = 0 ∨ rx_ev r e = 1 := by omega
      have e1 : rx_iv r ad xa (.inr (0, e)) = .int (Int32.ofInt (rx_ev r e)) := rfl
      rw [e1]
      rcases h01 with q | q <;> rw [q] <;> (cases ty <;> first | exact ⟨rfl, rfl⟩ | cases hty)
  · rename_i e
    simp only [Bool.and_eq_true, beq_iff_eq] at h
    obtain ⟨h1, h2, h3⟩ := h
    obtain ⟨a, c, hb, g1, g2⟩ := bx_bb_ok h2
    obtain ⟨b1, b2, b3, b4⟩ := rx_bl_ok hs hb
    subst h3
    refine ⟨rfl, ?_, fun ty hty => ?_⟩
    · unfold bx_okR
      rw [h1]
      exact ⟨by show t.2.1 ≤ rx_ev r e; omega, by show rx_ev r e ≤ t.2.2; omega⟩
    · cases ty <;> first | exact ⟨rfl, rfl⟩ | cases hty
  · rename_i e
    simp only [Bool.and_eq_true, Bool.or_eq_true, beq_iff_eq] at h
    obtain ⟨h1, h2⟩ := h
    subst h1
    refine ⟨rfl, ?_, fun ty hty => ?_⟩
    · rcases h2 with ⟨g1, g2, g3⟩ | ⟨g1, g2⟩
      · unfold bx_okR
        rw [g1]
        show rx_ev r e = r n + t.2.1
        unfold rx_ev
        rw [g2, g3]
      · unfold bx_okR
        rw [g1]
        show D.2.1.2.2.2 t.2.1.toNat (rx_ev r e) = true
        rcases g2 with ⟨k1, k2⟩ | ⟨k1, k2⟩
        · have e1 : rx_ev r e = e.2 := by
            unfold rx_ev
            rw [k1, hs.1, Int.zero_add]
          rw [e1]
          exact k2
        · have e1 : rx_ev r e = r e.1 := by
            unfold rx_ev
            rw [k1, Int.add_zero]
          rw [e1]
          exact (bx_fd_ok hk k2).1
    · cases ty <;> first | exact ⟨rfl, rfl⟩ | cases hty
  · exact absurd h Bool.false_ne_true

section BXH
variable {p : Program} {l : Launch} {e : Env} {R : Room} {s : State} {m : MethodId} {args : Array Value} {below : List Frame} {meth : Method} {c : Code} {Q : State → Prop}
variable {D : bx_D} {cl : List vw_C} {A : Nat → Prop} {xa : Nat → Nat} {nL : Nat} {H0 H : Heap} {locs : List Loc} {ls : Array Slot} {r : Nat → Int} {ad : Nat → Nat}
variable {cc : ByteArray} {z : rx_Z} {zs : List rx_Z} {V : bx_V} {S : Nat → Int → Int}
theorem bx_nv_ok {tc n np : Nat} {t : bx_T} {I I2 : rx_I} {ht ht2 : List rx_C} {v : rx_V} {w : Int} (hV : bx_VOK D.2.1 V) (hnp : np = D.2.1.2.1) (hs : rx_sat I r) (hn : n < I.length) (hk : bx_kns D ad xa S I.length ht r) (h : bx_nv tc n np t I ht = some (I2, ht2, v)) (hw : bx_okR D.2.1 (r n) t w) :
    ∃ r_p : Nat → Int, rx_same I.length r r_p ∧ rx_sat I2 r_p ∧ I.length ≤ I2.length ∧ rx_sc I2.length 0 v ∧ bx_kns D ad xa S I2.length ht2 r_p ∧ rx_iv r_p ad xa v = bx_fv ad tc w ∧ bx_num r_p v = w ∧ ∀ S0 : Nat → Int → Int, bx_chain D.2.1 I.length r S0 ht S → bx_chain D.2.1 I2.length r_p S0 ht2 S := by
  unfold bx_nv at h
  split at h
  · rename_i lo hi
    have hw : lo ≤ w ∧ w ≤ hi := hw
    have hsat := rx_sat_up (z := w) hs hw.1 hw.2
    have hev : rx_ev (rx_up r I.length w) (I.length, 0) = w := by
      unfold rx_ev
      rw [rx_up_self, Int.add_zero]
    have hlen : I.length ≤ (I ++ [(lo, hi)]).length := by simp
    have hlt : I.length < (I ++ [(lo, hi)]).length := by simp
    split at h
    · rename_i htc
      cases h
      refine ⟨rx_up r I.length w, rx_up_same, hsat, hlen, hlt, hk.ext hlen rx_up_same, ?_, hev, fun S0 h => h.ext hlen rx_up_same⟩
      show Value.int (Int32.ofInt (rx_ev (rx_up r I.length w) (I.length, 0))) = _
      rw [hev]
      rcases (show tc = 0 ∨ tc = 1 by omega) with h | h <;> subst h <;> rfl
    · split at h
      · rename_i h2
        cases h
        subst h2
        refine ⟨rx_up r I.length w, rx_up_same, hsat, hlen, hlt, hk.ext hlen rx_up_same, ?_, hev, fun S0 h => h.ext hlen rx_up_same⟩
        show Value.long (Int64.ofInt (rx_ev (rx_up r I.length w) (I.length, 0))) = _
        rw [hev]
        rfl
      · cases h
  · rename_i o x
    split at h
    · rename_i htc
      cases h
      have hw : w = r n + o := hw
      obtain ⟨q, rfl⟩ : ∃ q, tc = q + 3 := ⟨tc - 3, by omega⟩
      exact ⟨r, rx_same.rf, hs, Nat.le_refl _, hn, hk, by rw [hw]; rfl, hw.symm, fun S0 h => h⟩
    · cases h
  · rename_i d x
    split at h
    · rename_i htc
      cases h
      have hw : D.2.1.2.2.2 d.toNat w = true := hw
      obtain ⟨b1, b2⟩ := hV.2.2.2.1 _ _ hw
      obtain ⟨htc, hd2⟩ := htc
      obtain ⟨q, rfl⟩ : ∃ q, tc = q + 3 := ⟨tc - 3, by omega⟩
      subst hnp
      have hsat := rx_sat_up (z := w) hs b1 b2
      have hev : rx_ev (rx_up r I.length w) (I.length, 0) = w := by
        unfold rx_ev
        rw [rx_up_self, Int.add_zero]
      have hlen : I.length ≤ (I ++ [(0, (D.2.1.2.1 : Int) + 1000)]).length := by simp
      have hlt : I.length < (I ++ [(0, (D.2.1.2.1 : Int) + 1000)]).length := by simp
      refine ⟨rx_up r I.length w, rx_up_same, hsat, hlen, hlt, fun y hy => ?_, ?_, hev, fun S0 h => bx_chain_skip (bx_notE (by show 1000000 + d.toNat < 3000000; omega)) (h.ext hlen rx_up_same)⟩
      · rcases List.mem_cons.mp hy with h | h
        · subst h
          refine ⟨hlt, trivial, ?_⟩
          unfold bx_kn
          rw [if_pos (Nat.le_add_right _ _)]
          show D.2.1.2.2.2 (1000000 + d.toNat - 1000000) (rx_ev (rx_up r I.length w) (I.length, 0)) = true
          rw [hev, Nat.add_sub_cancel_left]
          exact hw
        · exact (hk.ext hlen rx_up_same) y h
      · show Value.ref (ad (rx_ev (rx_up r I.length w) (I.length, 0)).toNat) = _
        rw [hev]
        rfl
    · cases h
  · cases h
end BXH
