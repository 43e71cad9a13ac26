/-! A REFLECTED MACHINE: what a place does, a kind each -/
/-- quicker ways to the same -/
noncomputable def ry_g {α : Type} (l : List α) : Nat → Option α := List.rec (motive := fun _ => Nat → Option α) (fun _ => none) (fun a _ ih n => Nat.rec (motive := fun _ => Option α) (some a) (fun m _ => ih m) n) l
theorem ry_g_eq {α : Type} : ∀ (l : List α) (k : Nat), ry_g l k = l[k]?
  | [], _ => rfl
  | _ :: _, 0 => rfl
  | _ :: l, k + 1 => ry_g_eq l k
noncomputable def ry_sk {α β : Type} (x : α) (l : List α) : Nat → (List α → β) → β := List.rec (motive := fun _ => Nat → (List α → β) → β) (fun _ K => K []) (fun a t ih n K => Nat.rec (motive := fun _ => β) (K (x :: t)) (fun m _ => ih m (fun t2 => K (a :: t2))) n) l
theorem ry_sk_eq {α β : Type} {x : α} : ∀ (l : List α) (k : Nat) (K : List α → β), ry_sk x l k K = K (l.set k x)
  | [], _, _ => rfl
  | _ :: _, 0, _ => rfl
  | a :: l, k + 1, K => ry_sk_eq l k (fun t => K (a :: t))
noncomputable def ry_pk {α β : Type} (x : α) (l : List α) : (List α → β) → β := List.rec (motive := fun _ => (List α → β) → β) (fun K => K [x]) (fun a _ ih K => ih (fun t => K (a :: t))) l
theorem ry_pk_eq {α β : Type} {x : α} : ∀ (l : List α) (K : List α → β), ry_pk x l K = K (l ++ [x])
  | [], _ => rfl
  | a :: l, K => ry_pk_eq l (fun t => K (a :: t))
noncomputable def ry_ln {α : Type} (l : List α) : Nat := List.rec (motive := fun _ => Nat) 0 (fun _ _ ih => Nat.succ ih) l
theorem ry_ln_eq {α : Type} : ∀ l : List α, ry_ln l = l.length
  | [] => rfl
  | _ :: l => congrArg Nat.succ (ry_ln_eq l)
noncomputable def ry_nk {β : Type} (n : Nat) (K : Nat → β) : β := Nat.rec (motive := fun _ => β) (K 0) (fun m _ => K (Nat.succ m)) n
theorem ry_nk_eq {β : Type} (n : Nat) (K : Nat → β) : ry_nk n K = K n := by
  cases n <;> rfl
noncomputable def ry_l {α : Type} (l : List (Nat × α)) (i : Nat) : Option α := List.rec (motive := fun _ => Option α) none (fun q _ ih => Bool.rec (motive := fun _ => Option α) ih (some q.2) (Nat.beq q.1 i)) l
theorem ry_l_eq {i : Nat} : ∀ l : List (Nat × ry_V), ry_l l i = ry_lk l i
  | [] => rfl
  | q :: l => by
    have ih := ry_l_eq (i := i) l
    show Bool.rec (motive := fun _ => Option ry_V) (ry_l l i) (some q.2) (Nat.beq q.1 i) = ry_lk (q :: l) i
    rw [ry_lk]
    by_cases h : q.1 = i
    · rw [if_pos h, Nat.beq_eq.mpr h]
    · rw [if_neg h, Bool.eq_false_iff.mpr fun h2 => h (Nat.beq_eq.mp h2)]
      exact ih
def ry_q_mc (mc ms : Nat) (z : ry_Z) : Bool := Nat.ble z.2.2.2.1 mc && Nat.ble z.2.2.2.2.1 ms
def ry_q_reti (mc ms : Nat) (z : ry_Z) : Option ry_End := ry_if (ry_q_mc mc ms z) (match ry_zst z with
  | [.inr (0, e)] => some (z.1, z.2.1, z.2.2.1, some (.inr (0, e)))
  | _ => none)
def ry_q_retz (mc ms : Nat) (z : ry_Z) : Option ry_End := ry_if (ry_q_mc mc ms z) (match ry_zst z with
  | [.inr (0, e)] => ry_if (ry_in01 z.1 e) (some (z.1, z.2.1, z.2.2.1, some (.inr (0, e))))
  | _ => none)
def ry_q_retl (mc ms : Nat) (z : ry_Z) : Option ry_End := ry_if (ry_q_mc mc ms z) (match ry_zst z with
  | [.inr (1, e)] => some (z.1, z.2.1, z.2.2.1, some (.inr (1, e)))
  | _ => none)
def ry_q_reta (mc ms : Nat) (z : ry_Z) : Option ry_End := ry_if (ry_q_mc mc ms z) (match ry_zst z with
  | [.inl o] => some (z.1, z.2.1, z.2.2.1, some (.inl o))
  | _ => none)
def ry_q_retv (mc ms : Nat) (z : ry_Z) : Option ry_End := ry_if (ry_q_mc mc ms z) (match ry_zst z with
  | [] => some (z.1, z.2.1, z.2.2.1, none)
  | _ => none)
def ry_q_scall (M M_p : ry_Mt) (n : Nat) (z : ry_Z) : Option (List ry_V × List ry_V) := match ry_take n [] (ry_zst z) with
  | some (as, t) => ry_if (ry_may M M_p z as t) (some (as, t))
  | none => none
def ry_q_if (cnd : Jvm.ClassFile.Cond) (tgt nx : Nat) (z : ry_Z) : Option (List ry_Z) := match ry_pi (ry_zst z) with
  | some (a, t) => if ry_okI z.1 a then some (ry_fork z cnd a (0, 0) tgt nx t) else none
  | none => none
def ry_q_icmp (cnd : Jvm.ClassFile.Cond) (tgt nx : Nat) (z : ry_Z) : Option (List ry_Z) := match ry_pi (ry_zst z) with
  | some (b, t) => match ry_pi t with
    | some (a, t) => if ry_okI z.1 a && ry_okI z.1 b then some (ry_fork z cnd a b tgt nx t) else none
    | none => none
  | none => none
def ry_q_lcmp (cnd : Jvm.ClassFile.Cond) (tgt nx : Nat) (z : ry_Z) : Option (List ry_Z) := match ry_pl (ry_zst z) with
  | some (b, t) => match ry_pl t with
    | some (a, t) => if ry_okL z.1 a && ry_okL z.1 b then some (ry_fork z cnd a b tgt nx t) else none
    | none => none
  | none => none
def ry_q_goto (tgt : Nat) (z : ry_Z) : Option (List ry_Z) := some [ry_jp z.1 z.2.1 z tgt (ry_zst z)]
noncomputable def ry_q_get (q : ry_Q) (z : ry_Z) : Option (List ry_Z) := match ry_pr (ry_zst z) with
  | some (some k, t) => match ry_g z.2.2.1 k with
    | some (.inl (ci, fs)) => match Nat.beq ci q.1 with
      | true => (match ry_g fs q.2.1 with
        | some (.inl v) => some [ry_nx z 3 (v :: t)]
        | _ => none)
      | false => none
    | _ => none
  | _ => none
theorem ry_beqd {α : Type} {a b : Nat} {x y : α} : (match Nat.beq a b with
    | true => x
    | false => y) = if a = b then x else y := by
  by_cases h : a = b
  · rw [if_pos h, Nat.beq_eq.mpr h]
  · rw [if_neg h, Bool.eq_false_iff.mpr fun h2 => h (Nat.beq_eq.mp h2)]
theorem ry_q_get_eq {fr : Nat → Option ry_Q} {idx : Nat} {q : ry_Q} (hq : fr idx = some q) (z : ry_Z) : ry_q_get q z = ry_h_get fr idx z := by
  unfold ry_q_get ry_h_get
  rw [hq]
  rcases ry_pr (ry_zst z) with _ | ⟨_ | k, t⟩
  · rfl
  · rfl
  · dsimp only
    rw [ry_g_eq]
    rcases (z.2.2.1)[k]? with _ | ⟨ci, fs⟩ | c
    · rfl
    · dsimp only
      rw [ry_beqd, ry_g_eq]
      rfl
    · rfl
noncomputable def ry_q_put (q : ry_Q) (ini : Bool) (z : ry_Z) : Option (List ry_Z) := match ry_pv (ry_zst z) with
  | some (v, t) => match ry_pr t with
    | some (some k, t2) => match ry_g z.2.2.1 k with
      | some (.inl (ci, fs)) => ry_if (Nat.beq ci q.1 && ((ry_g fs q.2.1).isSome && (ry_fit z.1 q.2.2.1 v && (!q.2.2.2.1 || (ini && !q.2.2.2.2))))) (ry_sk (.inl v) fs q.2.1 (fun fs2 => ry_sk (.inl (ci, fs2)) z.2.2.1 k (fun ht2 => some [ry_nxh ht2 z 3 t2])))
      | _ => none
    | _ => none
  | _ => none
theorem ry_q_put_eq {fr : Nat → Option ry_Q} {ini : Bool} {idx : Nat} {q : ry_Q} (hq : fr idx = some q) (z : ry_Z) : ry_q_put q ini z = ry_h_put fr ini idx z := by
  unfold ry_q_put ry_h_put
  rw [hq]
  rcases ry_pv (ry_zst z) with _ | ⟨v, t⟩
  · rfl
  · dsimp only
    rcases ry_pr t with _ | ⟨_ | k, t2⟩
    · rfl
    · rfl
    · dsimp only
      rw [ry_g_eq]
      rcases (z.2.2.1)[k]? with _ | ⟨ci, fs⟩ | c
      · rfl
      · dsimp only
        rw [ry_sk_eq, ry_sk_eq, ry_g_eq]
        have e : (Nat.beq ci q.1 && ((fs[q.2.1]?).isSome && (ry_fit z.1 q.2.2.1 v && (!q.2.2.2.1 || (ini && !q.2.2.2.2))))) = decide (ci = q.1 ∧ q.2.1 < fs.length ∧ ry_fit z.1 q.2.2.1 v = true ∧ (q.2.2.2.1 = false ∨ (ini = true ∧ q.2.2.2.2 = false))) := by
          rw [Bool.eq_iff_iff]
          simp
        rw [e]
        by_cases h : ci = q.1 ∧ q.2.1 < fs.length ∧ ry_fit z.1 q.2.2.1 v = true ∧ (q.2.2.2.1 = false ∨ (ini = true ∧ q.2.2.2.2 = false))
        · rw [if_pos h, decide_eq_true h]
          rfl
        · rw [if_neg h, decide_eq_false h]
          rfl
      · rfl
noncomputable def ry_q_ald (okc : Nat → Bool) (z : ry_Z) : Option (List ry_Z) := match ry_pi (ry_zst z) with
  | some (ix, t) => match ry_pr t with
    | some (some k, t2) => match ry_g z.2.2.1 k with
      | some (.inr (tc, n, df, ov)) => if okc tc then (match ry_bi z.1 ix with
        | some (lo, hi) => if 0 ≤ lo ∧ hi < (n : Int) then
            (if lo = hi then ry_pushX z (ry_gt ov df lo.toNat) t2
             else if ov.all (fun q => decide ((q.1 : Int) < lo) || decide (hi < (q.1 : Int))) then ry_pushX z df t2
             else ry_each z (ry_nm z.1 ix) df ov t2 (hi - lo + 1).toNat lo)
          else none
        | none => none) else none
      | _ => none
    | _ => none
  | none => none
theorem ry_q_ald_eq (okc : Nat → Bool) (z : ry_Z) : ry_q_ald okc z = ry_h_ald okc z := by
  unfold ry_q_ald ry_h_ald
  simp only [ry_g_eq]
  rfl
noncomputable def ry_q_ast (okc : Nat → Bool) (okv : ry_I → List ry_C → Nat → ry_V → Bool) (z : ry_Z) : Option (List ry_Z) := match ry_pv (ry_zst z) with
  | some (v, t0) => match ry_pi t0 with
    | some (ix, t) => match ry_pr t with
      | some (some k, t2) => match ry_g z.2.2.1 k with
        | some (.inr (tc, n, df, ov)) => if okc tc && okv z.1 z.2.2.1 tc v then (match ry_bi z.1 ix with
          | some (lo, hi) => if 0 ≤ lo ∧ hi < (n : Int) ∧ lo = hi then ry_sk (.inr (tc, n, df, ry_ovset ov df lo.toNat v)) z.2.2.1 k (fun ht2 => some [ry_nxh ht2 z 1 t2]) else none
          | none => none) else none
        | _ => none
      | _ => none
    | none => none
  | none => none
theorem ry_q_ast_eq (okc : Nat → Bool) (okv : ry_I → List ry_C → Nat → ry_V → Bool) (z : ry_Z) : ry_q_ast okc okv z = ry_h_ast okc okv z := by
  unfold ry_q_ast ry_h_ast
  simp only [ry_g_eq, ry_sk_eq]
  rfl
noncomputable def ry_q_nxa (x : ry_C) (n : Nat) (z : ry_Z) (d : Nat) (t : List ry_V) : Option (List ry_Z) := match z with
  | (I0, F1, ht0, c0, s0, pc0, lv0, _) => ry_pk x ht0 (fun ht1 => ry_nk (ry_ln ht0) (fun k => some [(I0, F1, ht1, c0 + 1, s0 + n, pc0 + d, lv0, .inl (some k) :: t)]))
theorem ry_q_nxa_eq (x : ry_C) (n : Nat) (z : ry_Z) (d : Nat) (t : List ry_V) : ry_q_nxa x n z d t = some [ry_nxa x n z d t] := by
  obtain ⟨I0, F1, ht0, c0, s0, pc0, lv0, st⟩ := z
  unfold ry_q_nxa
  dsimp only
  rw [ry_pk_eq, ry_nk_eq, ry_ln_eq]
  rfl
noncomputable def ry_q_new (q : Nat × List Nat) (mc ms : Nat) (z : ry_Z) : Option (List ry_Z) :=
  if z.2.2.2.1 + 1 ≤ mc ∧ z.2.2.2.2.1 + q.2.length ≤ ms then ry_q_nxa (.inl (q.1, q.2.map (fun tc => .inl (ry_dv tc)))) q.2.length z 3 (ry_zst z) else none
theorem ry_q_new_eq {cr : Nat → Option (Nat × List Nat)} {mc ms idx : Nat} {q : Nat × List Nat} (hq : cr idx = some q) (z : ry_Z) : ry_q_new q mc ms z = ry_h_new cr mc ms idx z := by
  unfold ry_q_new ry_h_new
  rw [hq, ry_q_nxa_eq]
noncomputable def ry_q_newa (mc ms tc : Nat) (z : ry_Z) : Option (List ry_Z) := match ry_pi (ry_zst z) with
  | some (e, t) => match ry_len z.1 e with
    | some n => if z.2.2.2.1 + 1 ≤ mc ∧ z.2.2.2.2.1 + n ≤ ms then ry_q_nxa (.inr (tc, n, .inl (ry_dv tc), [])) n z 2 t else none
    | none => none
  | none => none
theorem ry_q_newa_eq {mc ms tc : Nat} {a : ArrayType} (ha : ry_atc a = some tc) (z : ry_Z) : ry_q_newa mc ms tc z = ry_h_newa mc ms a z := by
  unfold ry_q_newa ry_h_newa
  rw [ha]
  simp only [ry_q_nxa_eq]
  rcases ry_pi (ry_zst z) with _ | ⟨e, t⟩ <;> rfl
noncomputable def ry_q_newq (ci mc ms : Nat) (z : ry_Z) : Option (List ry_Z) := match ry_pi (ry_zst z) with
  | some (e, t) => match ry_len z.1 e with
    | some n => if z.2.2.2.1 + 1 ≤ mc ∧ z.2.2.2.2.1 + n ≤ ms then ry_q_nxa (.inr (ci + 5, n, .inl (.inl none), [])) n z 3 t else none
    | none => none
  | none => none
theorem ry_q_newq_eq {ar : Nat → Option Nat} {mc ms idx ci : Nat} (ha : ar idx = some ci) (z : ry_Z) : ry_q_newq ci mc ms z = ry_h_newq ar mc ms idx z := by
  unfold ry_q_newq ry_h_newq
  rw [ha]
  simp only [ry_q_nxa_eq]
  rcases ry_pi (ry_zst z) with _ | ⟨e, t⟩ <;> rfl
noncomputable def ry_q_load (kd i d : Nat) (z : ry_Z) : Option (List ry_Z) := match ry_l (ry_zlv z) i with
  | some (.inr (j, e)) => match Nat.beq j kd with
    | true => some [ry_nx z d (.inr (j, e) :: ry_zst z)]
    | false => none
  | _ => none
theorem ry_q_load_eq (kd i d : Nat) (z : ry_Z) : ry_q_load kd i d z = ry_h_load kd i d z := by
  unfold ry_q_load ry_h_load
  simp only [ry_l_eq, ry_beqd]
  rfl
noncomputable def ry_q_loadA (i d : Nat) (z : ry_Z) : Option (List ry_Z) := match ry_l (ry_zlv z) i with
  | some (.inl o) => some [ry_nx z d (.inl o :: ry_zst z)]
  | some (.inr (j + 2, e)) => some [ry_nx z d (.inr (j + 2, e) :: ry_zst z)]
  | _ => none
theorem ry_q_loadA_eq (i d : Nat) (z : ry_Z) : ry_q_loadA i d z = ry_h_loadA i d z := by
  unfold ry_q_loadA ry_h_loadA
  simp only [ry_l_eq]
  rfl
noncomputable def ry_q_alen (z : ry_Z) : Option (List ry_Z) := match ry_pv (ry_zst z) with
  | some (.inl (some k), t) => match ry_g z.2.2.1 k with
    | some (.inr (_, n, _, _)) => some [ry_nx z 1 (ry_n (n : Int) :: t)]
    | _ => none
  | _ => none
theorem ry_q_alen_eq (z : ry_Z) : ∀ zs, ry_q_alen z = some zs → ry_if (ry_topc z) (ry_h_alen z) = some zs := by
  intro zs h
  unfold ry_q_alen at h
  unfold ry_topc ry_h_alen
  split at h
  · rename_i k t e
    rw [e]
    dsimp only
    rw [← ry_g_eq]
    exact h
  · cases h
noncomputable def ry_q_rcv (ht : List ry_C) (ci : Nat) (t : List ry_V) : Option (Nat × List ry_V) := match ry_pr t with
  | some (some k, t2) => match ry_g ht k with
    | some (.inl (ci', _)) => ry_if (ci' == ci) (some (k, t2))
    | _ => none
  | _ => none
theorem ry_q_rcv_eq (ht : List ry_C) (ci : Nat) (t : List ry_V) : ry_q_rcv ht ci t = ry_rcv ht ci t := by
  unfold ry_q_rcv ry_rcv
  simp only [ry_g_eq]
  rfl
noncomputable def ry_q_vcall (M M_p : ry_Mt) (n ci : Nat) (z : ry_Z) : Option (List ry_V × List ry_V) := match ry_take n [] (ry_zst z) with
  | some (as, t) => match ry_q_rcv z.2.2.1 ci t with
    | some (k, t2) => ry_if (ry_may M M_p z (.inl (some k) :: as) t2) (some (.inl (some k) :: as, t2))
    | none => none
  | none => none
noncomputable def ry_q_fill (d : Nat) (z : ry_Z) : Option (List ry_Z) := match ry_pi (ry_zst z) with
  | some (v, t) => match ry_pr t with
    | some (some k, t2) => match ry_g z.2.2.1 k with
      | some (.inr (tc, n, _, _)) => ry_if (tc == 0 && (decide (1 ≤ d) && (decide (ry_cats t2 ≤ 8) && decide (n < 2000000000)))) (ry_sk (.inr (0, n, .inl (.inr (0, v)), [])) z.2.2.1 k (fun h => some [ry_nxh h z 3 t2]))
      | _ => none
    | _ => none
  | none => none
theorem ry_q_fill_eq (d : Nat) (z : ry_Z) : ry_q_fill d z = ry_x_fill d z := by
  unfold ry_q_fill ry_x_fill
  simp only [ry_g_eq, ry_sk_eq]
  rfl
noncomputable def ry_q_copy (d : Nat) (z : ry_Z) : Option (List ry_Z) := match ry_pi (ry_zst z) with
  | some (n, t) => match ry_pi t with
    | some (dp, t) => match ry_pr t with
      | some (some k1, t) => match ry_pi t with
        | some (sp, t) => match ry_pr t with
          | some (some k0, t) => match ry_g z.2.2.1 k0, ry_g z.2.2.1 k1 with
            | some (.inr (tc0, n0, df, ov)), some (.inr (tc1, n1, _, _)) => ry_if (tc0 == 0 && (tc1 == 0 && (n0 == n1 && (ry_pt z n == some (n0 : Int) && (ry_pt z dp == some 0 && (ry_pt z sp == some 0 && (decide (1 ≤ d) && (decide (ry_cats t ≤ 8) && decide (n0 < 2000000000))))))))) (ry_sk (.inr (0, n0, df, ov)) z.2.2.1 k1 (fun h => some [ry_nxh h z 3 t]))
            | _, _ => none
          | _ => none
        | none => none
      | _ => none
    | none => none
  | none => none
theorem ry_q_copy_eq (d : Nat) (z : ry_Z) : ry_q_copy d z = ry_x_copy d z := by
  unfold ry_q_copy ry_x_copy
  simp only [ry_g_eq, ry_sk_eq]
  rfl
theorem ry_ifN {α : Type} (b : Bool) : ry_if b (none : Option α) = none := by
  cases b <;> rfl
theorem ry_q_may {M : ry_Mt} {mc ms : Nat} {z : ry_Z} {α : Type} {x : Option α} (h1 : M.2.2.2.2.2.2.1 = mc) (h2 : M.2.2.2.2.2.2.2 = ms) : ry_if (1 == 1 && (decide (z.2.2.2.1 ≤ M.2.2.2.2.2.2.1) && decide (z.2.2.2.2.1 ≤ M.2.2.2.2.2.2.2))) x = ry_if (ry_q_mc mc ms z) x := by
  subst h1; subst h2
  have e : ∀ a b : Nat, decide (a ≤ b) = Nat.ble a b := fun a b => by
    rw [Bool.eq_iff_iff, decide_eq_true_eq, Nat.ble_eq]
  unfold ry_q_mc
  rw [e, e]
  rfl
theorem ry_xm_eq {M : ry_Mt} {mc ms : Nat} {z : ry_Z} (h1 : M.2.2.2.2.2.2.1 = mc) (h2 : M.2.2.2.2.2.2.2 = ms) : ry_xm M z = ry_q_mc mc ms z := by
  subst h1; subst h2
  have e : ∀ a b : Nat, decide (a ≤ b) = Nat.ble a b := fun a b => by
    rw [Bool.eq_iff_iff, decide_eq_true_eq, Nat.ble_eq]
  unfold ry_q_mc ry_xm
  rw [e, e]
section RYK
variable {T : ry_Tb} {lw : Bool} {M : ry_Mt} {pc : Nat} {xt sl : Nat → Nat → Option Nat} {ln : List Nat} {im : ry_Im}
theorem ry_k_iconst {n m : Int} (hn : n = m) (hd : decode M.2.1 pc = .ok (.iconst n, 1)) : ry_entOK (ry_xh xt sl ln im) T lw M pc (.inl (fun _ => ry_h_push (ry_n m) 1)) := by
  subst hn
  exact ⟨_, _, hd, fun _ _ _ _ _ _ _ _ => ⟨ry_ifN _, fun _ h => h⟩⟩
theorem ry_k_bipush {n m : Int} (hn : (Int8.ofInt n).toInt32.toInt = m) (hd : decode M.2.1 pc = .ok (.bipush n, 2)) : ry_entOK (ry_xh xt sl ln im) T lw M pc (.inl (fun _ => ry_h_push (ry_n m) 2)) := by
  subst hn
  exact ⟨_, _, hd, fun _ _ _ _ _ _ _ _ => ⟨ry_ifN _, fun _ h => h⟩⟩
theorem ry_k_lconst {n : Fin 2} {m : Int} (hn : ((n : Nat) : Int) = m) (hd : decode M.2.1 pc = .ok (.lconst n, 1)) : ry_entOK (ry_xh xt sl ln im) T lw M pc (.inl (fun _ => ry_h_push (.inr (1, (0, m))) 1)) := by
  subst hn
  exact ⟨_, _, hd, fun _ _ _ _ _ _ _ _ => ⟨ry_ifN _, fun _ h => h⟩⟩
theorem ry_k_null (hd : decode M.2.1 pc = .ok (.aconst_null, 1)) : ry_entOK (ry_xh xt sl ln im) T lw M pc (.inl (fun _ => ry_h_push (.inl none) 1)) := ⟨_, _, hd, fun _ _ _ _ _ _ _ _ => ⟨ry_ifN _, fun _ h => h⟩⟩
theorem ry_k_iload_n {k : Fin 4} {i : Nat} (hk : (k : Nat) = i) (hd : decode M.2.1 pc = .ok (.iload_n k, 1)) : ry_entOK (ry_xh xt sl ln im) T lw M pc (.inl (fun _ => ry_q_load 0 i 1)) := by
  subst hk
  refine ⟨_, _, hd, fun d I F ht c s lv st => ⟨ry_ifN _, fun zs h => ?_⟩⟩
  try dsimp only at h
  rw [ry_q_load_eq] at h
  exact h
theorem ry_k_iload {i : Nat} (hd : decode M.2.1 pc = .ok (.iload i, 2)) : ry_entOK (ry_xh xt sl ln im) T lw M pc (.inl (fun _ => ry_q_load 0 i 2)) := by
  refine ⟨_, _, hd, fun d I F ht c s lv st => ⟨ry_ifN _, fun zs h => ?_⟩⟩
  try dsimp only at h
  rw [ry_q_load_eq] at h
  exact h
theorem ry_k_lload_n {k : Fin 4} {i : Nat} (hk : (k : Nat) = i) (hd : decode M.2.1 pc = .ok (.lload_n k, 1)) : ry_entOK (ry_xh xt sl ln im) T lw M pc (.inl (fun _ => ry_q_load 1 i 1)) := by
  subst hk
  refine ⟨_, _, hd, fun d I F ht c s lv st => ⟨ry_ifN _, fun zs h => ?_⟩⟩
  try dsimp only at h
  rw [ry_q_load_eq] at h
  exact h
theorem ry_k_lload {i : Nat} (hd : decode M.2.1 pc = .ok (.lload i, 2)) : ry_entOK (ry_xh xt sl ln im) T lw M pc (.inl (fun _ => ry_q_load 1 i 2)) := by
  refine ⟨_, _, hd, fun d I F ht c s lv st => ⟨ry_ifN _, fun zs h => ?_⟩⟩
  try dsimp only at h
  rw [ry_q_load_eq] at h
  exact h
theorem ry_k_aload_n {k : Fin 4} {i : Nat} (hk : (k : Nat) = i) (hd : decode M.2.1 pc = .ok (.aload_n k, 1)) : ry_entOK (ry_xh xt sl ln im) T lw M pc (.inl (fun _ => ry_q_loadA i 1)) := by
  subst hk
  refine ⟨_, _, hd, fun d I F ht c s lv st => ⟨ry_ifN _, fun zs h => ?_⟩⟩
  try dsimp only at h
  rw [ry_q_loadA_eq] at h
  exact h
theorem ry_k_aload {i : Nat} (hd : decode M.2.1 pc = .ok (.aload i, 2)) : ry_entOK (ry_xh xt sl ln im) T lw M pc (.inl (fun _ => ry_q_loadA i 2)) := by
  refine ⟨_, _, hd, fun d I F ht c s lv st => ⟨ry_ifN _, fun zs h => ?_⟩⟩
  try dsimp only at h
  rw [ry_q_loadA_eq] at h
  exact h
theorem ry_k_istore_n {k : Fin 4} {i nL : Nat} (hk : (k : Nat) = i) (hL : M.2.2.1 = nL) (hd : decode M.2.1 pc = .ok (.istore_n k, 1)) : ry_entOK (ry_xh xt sl ln im) T lw M pc (.inl (fun _ => ry_h_istore nL i 1)) := by
  subst hk; subst hL
  exact ⟨_, _, hd, fun _ _ _ _ _ _ _ _ => ⟨ry_ifN _, fun _ h => h⟩⟩
theorem ry_k_istore {i nL : Nat} (hL : M.2.2.1 = nL) (hd : decode M.2.1 pc = .ok (.istore i, 2)) : ry_entOK (ry_xh xt sl ln im) T lw M pc (.inl (fun _ => ry_h_istore nL i 2)) := by
  subst hL
  exact ⟨_, _, hd, fun _ _ _ _ _ _ _ _ => ⟨ry_ifN _, fun _ h => h⟩⟩
theorem ry_k_lstore_n {k : Fin 4} {i nL : Nat} (hk : (k : Nat) = i) (hL : M.2.2.1 = nL) (hd : decode M.2.1 pc = .ok (.lstore_n k, 1)) : ry_entOK (ry_xh xt sl ln im) T lw M pc (.inl (fun _ => ry_h_lstore nL i 1)) := by
  subst hk; subst hL
  exact ⟨_, _, hd, fun _ _ _ _ _ _ _ _ => ⟨ry_ifN _, fun _ h => h⟩⟩
theorem ry_k_lstore {i nL : Nat} (hL : M.2.2.1 = nL) (hd : decode M.2.1 pc = .ok (.lstore i, 2)) : ry_entOK (ry_xh xt sl ln im) T lw M pc (.inl (fun _ => ry_h_lstore nL i 2)) := by
  subst hL
  exact ⟨_, _, hd, fun _ _ _ _ _ _ _ _ => ⟨ry_ifN _, fun _ h => h⟩⟩
theorem ry_k_astore_n {k : Fin 4} {i nL : Nat} (hk : (k : Nat) = i) (hL : M.2.2.1 = nL) (hd : decode M.2.1 pc = .ok (.astore_n k, 1)) : ry_entOK (ry_xh xt sl ln im) T lw M pc (.inl (fun _ => ry_h_astore nL i 1)) := by
  subst hk; subst hL
  exact ⟨_, _, hd, fun _ _ _ _ _ _ _ _ => ⟨ry_ifN _, fun _ h => h⟩⟩
theorem ry_k_astore {i nL : Nat} (hL : M.2.2.1 = nL) (hd : decode M.2.1 pc = .ok (.astore i, 2)) : ry_entOK (ry_xh xt sl ln im) T lw M pc (.inl (fun _ => ry_h_astore nL i 2)) := by
  subst hL
  exact ⟨_, _, hd, fun _ _ _ _ _ _ _ _ => ⟨ry_ifN _, fun _ h => h⟩⟩
theorem ry_k_iinc {i nL : Nat} {n m : Int} (hn : n = m) (hL : M.2.2.1 = nL) (hd : decode M.2.1 pc = .ok (.iinc i n, 3)) : ry_entOK (ry_xh xt sl ln im) T lw M pc (.inl (fun _ => ry_h_iinc nL i m)) := by
  subst hL; subst hn
  exact ⟨_, _, hd, fun _ _ _ _ _ _ _ _ => ⟨ry_ifN _, fun _ h => h⟩⟩
theorem ry_k_iadd (hd : decode M.2.1 pc = .ok (.iadd, 1)) : ry_entOK (ry_xh xt sl ln im) T lw M pc (.inl (fun _ => ry_h_bin 0)) := ⟨_, _, hd, fun _ _ _ _ _ _ _ _ => ⟨ry_ifN _, fun _ h => h⟩⟩
theorem ry_k_isub (hd : decode M.2.1 pc = .ok (.isub, 1)) : ry_entOK (ry_xh xt sl ln im) T lw M pc (.inl (fun _ => ry_h_bin 1)) := ⟨_, _, hd, fun _ _ _ _ _ _ _ _ => ⟨ry_ifN _, fun _ h => h⟩⟩
theorem ry_k_imul (hd : decode M.2.1 pc = .ok (.imul, 1)) : ry_entOK (ry_xh xt sl ln im) T lw M pc (.inl (fun _ => ry_h_bin 2)) := ⟨_, _, hd, fun _ _ _ _ _ _ _ _ => ⟨ry_ifN _, fun _ h => h⟩⟩
theorem ry_k_iand (hd : decode M.2.1 pc = .ok (.iand, 1)) : ry_entOK (ry_xh xt sl ln im) T lw M pc (.inl (fun _ => ry_h_bin 5)) := ⟨_, _, hd, fun _ _ _ _ _ _ _ _ => ⟨ry_ifN _, fun _ h => h⟩⟩
theorem ry_k_ior (hd : decode M.2.1 pc = .ok (.ior, 1)) : ry_entOK (ry_xh xt sl ln im) T lw M pc (.inl (fun _ => ry_h_bin 6)) := ⟨_, _, hd, fun _ _ _ _ _ _ _ _ => ⟨ry_ifN _, fun _ h => h⟩⟩
theorem ry_k_ixor (hd : decode M.2.1 pc = .ok (.ixor, 1)) : ry_entOK (ry_xh xt sl ln im) T lw M pc (.inl (fun _ => ry_h_bin 7)) := ⟨_, _, hd, fun _ _ _ _ _ _ _ _ => ⟨ry_ifN _, fun _ h => h⟩⟩
theorem ry_k_ishl (hd : decode M.2.1 pc = .ok (.ishl, 1)) : ry_entOK (ry_xh xt sl ln im) T lw M pc (.inl (fun _ => ry_h_bin 8)) := ⟨_, _, hd, fun _ _ _ _ _ _ _ _ => ⟨ry_ifN _, fun _ h => h⟩⟩
theorem ry_k_ishr (hd : decode M.2.1 pc = .ok (.ishr, 1)) : ry_entOK (ry_xh xt sl ln im) T lw M pc (.inl (fun _ => ry_h_bin 9)) := ⟨_, _, hd, fun _ _ _ _ _ _ _ _ => ⟨ry_ifN _, fun _ h => h⟩⟩
theorem ry_k_iushr (hd : decode M.2.1 pc = .ok (.iushr, 1)) : ry_entOK (ry_xh xt sl ln im) T lw M pc (.inl (fun _ => ry_h_bin 10)) := ⟨_, _, hd, fun _ _ _ _ _ _ _ _ => ⟨ry_ifN _, fun _ h => h⟩⟩
theorem ry_k_idiv (hd : decode M.2.1 pc = .ok (.idiv, 1)) : ry_entOK (ry_xh xt sl ln im) T lw M pc (.inl (fun _ => ry_h_div 3)) := ⟨_, _, hd, fun _ _ _ _ _ _ _ _ => ⟨ry_ifN _, fun _ h => h⟩⟩
theorem ry_k_irem (hd : decode M.2.1 pc = .ok (.irem, 1)) : ry_entOK (ry_xh xt sl ln im) T lw M pc (.inl (fun _ => ry_h_div 4)) := ⟨_, _, hd, fun _ _ _ _ _ _ _ _ => ⟨ry_ifN _, fun _ h => h⟩⟩
theorem ry_k_ineg (hd : decode M.2.1 pc = .ok (.ineg, 1)) : ry_entOK (ry_xh xt sl ln im) T lw M pc (.inl (fun _ => ry_h_ineg)) := ⟨_, _, hd, fun _ _ _ _ _ _ _ _ => ⟨ry_ifN _, fun _ h => h⟩⟩
theorem ry_k_ladd (hd : decode M.2.1 pc = .ok (.ladd, 1)) : ry_entOK (ry_xh xt sl ln im) T lw M pc (.inl (fun _ => ry_h_binL 0)) := ⟨_, _, hd, fun _ _ _ _ _ _ _ _ => ⟨ry_ifN _, fun _ h => h⟩⟩
theorem ry_k_lsub (hd : decode M.2.1 pc = .ok (.lsub, 1)) : ry_entOK (ry_xh xt sl ln im) T lw M pc (.inl (fun _ => ry_h_binL 1)) := ⟨_, _, hd, fun _ _ _ _ _ _ _ _ => ⟨ry_ifN _, fun _ h => h⟩⟩
theorem ry_k_lmul (hd : decode M.2.1 pc = .ok (.lmul, 1)) : ry_entOK (ry_xh xt sl ln im) T lw M pc (.inl (fun _ => ry_h_binL 2)) := ⟨_, _, hd, fun _ _ _ _ _ _ _ _ => ⟨ry_ifN _, fun _ h => h⟩⟩
theorem ry_k_ldiv (hd : decode M.2.1 pc = .ok (.ldiv, 1)) : ry_entOK (ry_xh xt sl ln im) T lw M pc (.inl (fun _ => ry_h_divL 3)) := ⟨_, _, hd, fun _ _ _ _ _ _ _ _ => ⟨ry_ifN _, fun _ h => h⟩⟩
theorem ry_k_lrem (hd : decode M.2.1 pc = .ok (.lrem, 1)) : ry_entOK (ry_xh xt sl ln im) T lw M pc (.inl (fun _ => ry_h_divL 4)) := ⟨_, _, hd, fun _ _ _ _ _ _ _ _ => ⟨ry_ifN _, fun _ h => h⟩⟩
theorem ry_k_i2l (hd : decode M.2.1 pc = .ok (.i2l, 1)) : ry_entOK (ry_xh xt sl ln im) T lw M pc (.inl (fun _ => ry_h_i2l)) := ⟨_, _, hd, fun _ _ _ _ _ _ _ _ => ⟨ry_ifN _, fun _ h => h⟩⟩
theorem ry_k_dup (hd : decode M.2.1 pc = .ok (.dup, 1)) : ry_entOK (ry_xh xt sl ln im) T lw M pc (.inl (fun _ => ry_h_dup)) := ⟨_, _, hd, fun _ _ _ _ _ _ _ _ => ⟨ry_ifN _, fun _ h => h⟩⟩
theorem ry_k_dup2 (hd : decode M.2.1 pc = .ok (.dup2, 1)) : ry_entOK (ry_xh xt sl ln im) T lw M pc (.inl (fun _ => ry_h_dup2)) := ⟨_, _, hd, fun _ _ _ _ _ _ _ _ => ⟨ry_ifN _, fun _ h => h⟩⟩
theorem ry_k_pop (hd : decode M.2.1 pc = .ok (.pop, 1)) : ry_entOK (ry_xh xt sl ln im) T lw M pc (.inl (fun _ => ry_h_pop)) := ⟨_, _, hd, fun _ _ _ _ _ _ _ _ => ⟨ry_ifN _, fun _ h => h⟩⟩
theorem ry_k_tableswitch {dflt lo hi : Int} {offs : Array Int} {len : Nat} (hd : decode M.2.1 pc = .ok (.tableswitch dflt lo hi offs, len)) : ry_entOK (ry_xh xt sl ln im) T lw M pc (.inl (fun _ => ry_h_table dflt lo hi offs)) := ⟨_, _, hd, fun _ _ _ _ _ _ _ _ => ⟨ry_ifN _, fun _ h => h⟩⟩
theorem ry_k_alenT (hw : lw = true) (hd : decode M.2.1 pc = .ok (.arraylength, 1)) : ry_entOK (ry_xh xt sl ln im) T lw M pc (.inl (fun _ => ry_h_alen)) := by
  subst hw
  exact ⟨_, _, hd, fun _ _ _ _ _ _ _ _ => ⟨ry_ifN _, fun _ h => h⟩⟩
theorem ry_k_alen (hw : lw = false) (hd : decode M.2.1 pc = .ok (.arraylength, 1)) : ry_entOK (ry_xh xt sl ln im) T lw M pc (.inl (fun _ => ry_q_alen)) := by
  subst hw
  exact ⟨_, _, hd, fun _ _ _ _ _ _ _ _ => ⟨ry_ifN _, fun zs h => ry_q_alen_eq _ zs h⟩⟩
noncomputable def ry_q_sld (z : ry_Z) : Option (List ry_Z) := ry_or (ry_q_ald (ry_isTc 0) z) (ry_h_sld z)
theorem ry_k_sld (hw : lw = true) (hd : decode M.2.1 pc = .ok (.iaload, 1)) : ry_entOK (ry_xh xt sl ln im) T lw M pc (.inl (fun _ => ry_q_sld)) := by
  subst hw
  refine ⟨_, _, hd, fun d I F ht c s lv st => ⟨ry_ifN _, fun zs h => ?_⟩⟩
  dsimp only at h
  unfold ry_q_sld at h
  rw [ry_q_ald_eq] at h
  exact h
theorem ry_k_iaload (hd : decode M.2.1 pc = .ok (.iaload, 1)) : ry_entOK (ry_xh xt sl ln im) T lw M pc (.inl (fun _ => ry_q_ald (ry_isTc 0))) := by
  refine ⟨_, _, hd, fun d I F ht c s lv st => ⟨ry_ifN _, fun zs h => ?_⟩⟩
  show ry_or (ry_h_ald (ry_isTc 0) (I, F, ht, c, s, pc, lv, st)) _ = some zs
  dsimp only at h
  rw [ry_q_ald_eq] at h
  rw [h]
  rfl
theorem ry_k_baload (hd : decode M.2.1 pc = .ok (.baload, 1)) : ry_entOK (ry_xh xt sl ln im) T lw M pc (.inl (fun _ => ry_q_ald (ry_isTc 1))) := by
  refine ⟨_, _, hd, fun d I F ht c s lv st => ⟨ry_ifN _, fun zs h => ?_⟩⟩
  try dsimp only at h
  rw [ry_q_ald_eq] at h
  exact h
theorem ry_k_laload (hd : decode M.2.1 pc = .ok (.laload, 1)) : ry_entOK (ry_xh xt sl ln im) T lw M pc (.inl (fun _ => ry_q_ald (ry_isTc 2))) := by
  refine ⟨_, _, hd, fun d I F ht c s lv st => ⟨ry_ifN _, fun zs h => ?_⟩⟩
  try dsimp only at h
  rw [ry_q_ald_eq] at h
  exact h
theorem ry_k_aaload (hd : decode M.2.1 pc = .ok (.aaload, 1)) : ry_entOK (ry_xh xt sl ln im) T lw M pc (.inl (fun _ => ry_q_ald ry_isRef)) := by
  refine ⟨_, _, hd, fun d I F ht c s lv st => ⟨ry_ifN _, fun zs h => ?_⟩⟩
  try dsimp only at h
  rw [ry_q_ald_eq] at h
  exact h
theorem ry_k_iastore (hd : decode M.2.1 pc = .ok (.iastore, 1)) : ry_entOK (ry_xh xt sl ln im) T lw M pc (.inl (fun _ => ry_q_ast (ry_isTc 0) (fun I _ _ v => ry_fit I 0 v))) := by
  refine ⟨_, _, hd, fun d I F ht c s lv st => ⟨ry_ifN _, fun zs h => ?_⟩⟩
  try dsimp only at h
  rw [ry_q_ast_eq] at h
  exact h
theorem ry_k_bastore (hd : decode M.2.1 pc = .ok (.bastore, 1)) : ry_entOK (ry_xh xt sl ln im) T lw M pc (.inl (fun _ => ry_q_ast (ry_isTc 1) (fun I _ _ v => ry_fit I 1 v))) := by
  refine ⟨_, _, hd, fun d I F ht c s lv st => ⟨ry_ifN _, fun zs h => ?_⟩⟩
  try dsimp only at h
  rw [ry_q_ast_eq] at h
  exact h
theorem ry_k_lastore (hd : decode M.2.1 pc = .ok (.lastore, 1)) : ry_entOK (ry_xh xt sl ln im) T lw M pc (.inl (fun _ => ry_q_ast (ry_isTc 2) (fun I _ _ v => ry_fit I 2 v))) := by
  refine ⟨_, _, hd, fun d I F ht c s lv st => ⟨ry_ifN _, fun zs h => ?_⟩⟩
  try dsimp only at h
  rw [ry_q_ast_eq] at h
  exact h
theorem ry_k_aastore (hd : decode M.2.1 pc = .ok (.aastore, 1)) : ry_entOK (ry_xh xt sl ln im) T lw M pc (.inl (fun _ => ry_q_ast ry_isRef ry_fitA)) := by
  refine ⟨_, _, hd, fun d I F ht c s lv st => ⟨ry_ifN _, fun zs h => ?_⟩⟩
  try dsimp only at h
  rw [ry_q_ast_eq] at h
  exact h
theorem ry_k_newarray {a : ArrayType} {mc ms tc : Nat} (ha : ry_atc a = some tc) (h1 : M.2.2.2.2.2.2.1 = mc) (h2 : M.2.2.2.2.2.2.2 = ms) (hd : decode M.2.1 pc = .ok (.newarray a, 2)) : ry_entOK (ry_xh xt sl ln im) T lw M pc (.inl (fun _ => ry_q_newa mc ms tc)) := by
  subst h1; subst h2
  refine ⟨_, _, hd, fun d I F ht c s lv st => ⟨ry_ifN _, fun zs h => ?_⟩⟩
  dsimp only at h
  rw [ry_q_newa_eq ha] at h
  exact h
theorem ry_k_ldc {idx : Nat} {v : Int} (hv : T.2.2.2.1 M.1 idx = some (.inr (0, (0, v)))) (hs : sl M.1 idx = none) (hd : decode M.2.1 pc = .ok (.ldc idx, 2)) : ry_entOK (ry_xh xt sl ln im) T lw M pc (.inl (fun _ => ry_h_push (ry_n v) 2)) := by
  refine ⟨_, _, hd, fun d I F ht c s lv st => ⟨ry_ifN _, fun zs h => ?_⟩⟩
  show ry_or (ry_x_str sl M.1 idx _) (ry_h_const T.2.2.2.1 M.1 idx 0 2 _) = some zs
  unfold ry_x_str ry_h_const
  rw [hv, hs]
  exact h
theorem ry_k_ldcw {idx : Nat} {v : Int} (hv : T.2.2.2.1 M.1 idx = some (.inr (0, (0, v)))) (hd : decode M.2.1 pc = .ok (.ldc_w idx, 3)) : ry_entOK (ry_xh xt sl ln im) T lw M pc (.inl (fun _ => ry_h_push (ry_n v) 3)) := by
  refine ⟨_, _, hd, fun d I F ht c s lv st => ⟨ry_ifN _, fun zs h => ?_⟩⟩
  show ry_h_const T.2.2.2.1 M.1 idx 0 3 _ = some zs
  unfold ry_h_const
  rw [hv]
  exact h
theorem ry_k_ldc2 {idx : Nat} {v : Int} (hv : T.2.2.2.1 M.1 idx = some (.inr (1, (0, v)))) (hd : decode M.2.1 pc = .ok (.ldc2_w idx, 3)) : ry_entOK (ry_xh xt sl ln im) T lw M pc (.inl (fun _ => ry_h_push (.inr (1, (0, v))) 3)) := by
  refine ⟨_, _, hd, fun d I F ht c s lv st => ⟨ry_ifN _, fun zs h => ?_⟩⟩
  show ry_h_const T.2.2.2.1 M.1 idx 1 3 _ = some zs
  unfold ry_h_const
  rw [hv]
  exact h
theorem ry_k_ldcS {idx n : Nat} (hs : sl M.1 idx = some n) (hd : decode M.2.1 pc = .ok (.ldc idx, 2)) : ry_entOK (ry_xh xt sl ln im) T lw M pc (.inl (fun _ => ry_h_push (.inr (2, (0, (n : Int)))) 2)) := by
  refine ⟨_, _, hd, fun d I F ht c s lv st => ⟨ry_ifN _, fun zs h => ?_⟩⟩
  show ry_or (ry_x_str sl M.1 idx _) _ = some zs
  unfold ry_x_str
  rw [hs]
  exact h
theorem ry_k_sipush {n m : Int} (hn : (Int16.ofInt n).toInt32.toInt = m) (hi : im M n pc = false) (hd : decode M.2.1 pc = .ok (.sipush n, 3)) : ry_entOK (ry_xh xt sl ln im) T lw M pc (.inl (fun _ => ry_h_push (ry_n m) 3)) := by
  subst hn
  refine ⟨_, _, hd, fun d I F ht c s lv st => ⟨ry_ifN _, fun zs h => ?_⟩⟩
  show ry_or (ry_if (im M n pc) (ry_x_image _)) _ = some zs
  rw [hi]
  exact h
theorem ry_k_image {n : Int} (hi : im M n pc = true) (hd : decode M.2.1 pc = .ok (.sipush n, 3)) : ry_entOK (ry_xh xt sl ln im) T lw M pc (.inl (fun _ => ry_x_image)) := by
  refine ⟨_, _, hd, fun d I F ht c s lv st => ⟨ry_ifN _, fun zs h => ?_⟩⟩
  show ry_or (ry_if (im M n pc) (ry_x_image _)) _ = some zs
  rw [hi]
  show ry_or (ry_x_image (I, F, ht, c, s, pc, lv, st)) _ = some zs
  try dsimp only at h
  rw [h]
  rfl
theorem ry_k_init {idx : Nat} (hx : xt M.1 idx = some 10) (hd : decode M.2.1 pc = .ok (.invokespecial idx, 3)) : ry_entOK (ry_xh xt sl ln im) T lw M pc (.inl ry_x_init) := by
  refine ⟨_, _, hd, fun d I F ht c s lv st => ⟨ry_ifN _, fun zs h => ?_⟩⟩
  show ry_or (ry_if (3 == 3 && xt M.1 idx == some 10) (ry_x_init d _)) _ = some zs
  rw [hx]
  show ry_or (ry_x_init d (I, F, ht, c, s, pc, lv, st)) _ = some zs
  rw [h]
  rfl
theorem ry_k_slen {idx mc ms : Nat} (h1 : M.2.2.2.2.2.2.1 = mc) (h2 : M.2.2.2.2.2.2.2 = ms) (hx : xt M.1 idx = some 14) (hd : decode M.2.1 pc = .ok (.invokevirtual idx, 3)) : ry_entOK (ry_xh xt sl ln im) T lw M pc (.inl (fun d z => ry_if (ry_q_mc mc ms z) (ry_x_slen ln d z))) := by
  refine ⟨_, _, hd, fun d I F ht c s lv st => ⟨ry_ifN _, fun zs h => ?_⟩⟩
  show ry_or (ry_if (3 == 3 && xt M.1 idx == some 14) (ry_if (ry_xm M (I, F, ht, c, s, pc, lv, st)) (ry_x_slen ln d _))) _ = some zs
  rw [hx]
  show ry_or (ry_if (ry_xm M (I, F, ht, c, s, pc, lv, st)) (ry_x_slen ln d (I, F, ht, c, s, pc, lv, st))) _ = some zs
  dsimp only at h
  rw [← ry_xm_eq h1 h2] at h
  rw [h]
  rfl
theorem ry_k_copy {idx : Nat} (hx : xt M.1 idx = some 11) (hd : decode M.2.1 pc = .ok (.invokestatic idx, 3)) : ry_entOK (ry_xh xt sl ln im) T lw M pc (.inl ry_q_copy) := by
  refine ⟨_, _, hd, fun d I F ht c s lv st => ⟨ry_ifN _, fun zs h => ?_⟩⟩
  have e : ry_xh xt sl ln im d M (.invokestatic idx) 3 (I, F, ht, c, s, pc, lv, st) = ry_x_copy d (I, F, ht, c, s, pc, lv, st) := by
    show (match xt M.1 idx with
      | some 11 => ry_x_copy d (I, F, ht, c, s, pc, lv, st)
      | some 12 => ry_if (ry_xm M (I, F, ht, c, s, pc, lv, st)) (ry_x_fill d (I, F, ht, c, s, pc, lv, st))
      | some 13 => ry_if (ry_xm M (I, F, ht, c, s, pc, lv, st)) (ry_x_min d (I, F, ht, c, s, pc, lv, st))
      | _ => none) = _
    rw [hx]
    try rfl
  rw [ry_q_copy_eq] at h
  rw [e, h]
  rfl
theorem ry_k_fill {idx mc ms : Nat} (h1 : M.2.2.2.2.2.2.1 = mc) (h2 : M.2.2.2.2.2.2.2 = ms) (hx : xt M.1 idx = some 12) (hd : decode M.2.1 pc = .ok (.invokestatic idx, 3)) : ry_entOK (ry_xh xt sl ln im) T lw M pc (.inl (fun d z => ry_if (ry_q_mc mc ms z) (ry_q_fill d z))) := by
  refine ⟨_, _, hd, fun d I F ht c s lv st => ⟨ry_ifN _, fun zs h => ?_⟩⟩
  have e : ry_xh xt sl ln im d M (.invokestatic idx) 3 (I, F, ht, c, s, pc, lv, st) = ry_if (ry_xm M (I, F, ht, c, s, pc, lv, st)) (ry_x_fill d (I, F, ht, c, s, pc, lv, st)) := by
    show (match xt M.1 idx with
      | some 11 => ry_x_copy d (I, F, ht, c, s, pc, lv, st)
      | some 12 => ry_if (ry_xm M (I, F, ht, c, s, pc, lv, st)) (ry_x_fill d (I, F, ht, c, s, pc, lv, st))
      | some 13 => ry_if (ry_xm M (I, F, ht, c, s, pc, lv, st)) (ry_x_min d (I, F, ht, c, s, pc, lv, st))
      | _ => none) = _
    rw [hx]
    try rfl
  dsimp only at h
  rw [ry_q_fill_eq, ← ry_xm_eq h1 h2] at h
  rw [e, h]
  rfl
theorem ry_k_min {idx mc ms : Nat} (h1 : M.2.2.2.2.2.2.1 = mc) (h2 : M.2.2.2.2.2.2.2 = ms) (hx : xt M.1 idx = some 13) (hd : decode M.2.1 pc = .ok (.invokestatic idx, 3)) : ry_entOK (ry_xh xt sl ln im) T lw M pc (.inl (fun d z => ry_if (ry_q_mc mc ms z) (ry_x_min d z))) := by
  refine ⟨_, _, hd, fun d I F ht c s lv st => ⟨ry_ifN _, fun zs h => ?_⟩⟩
  have e : ry_xh xt sl ln im d M (.invokestatic idx) 3 (I, F, ht, c, s, pc, lv, st) = ry_if (ry_xm M (I, F, ht, c, s, pc, lv, st)) (ry_x_min d (I, F, ht, c, s, pc, lv, st)) := by
    show (match xt M.1 idx with
      | some 11 => ry_x_copy d (I, F, ht, c, s, pc, lv, st)
      | some 12 => ry_if (ry_xm M (I, F, ht, c, s, pc, lv, st)) (ry_x_fill d (I, F, ht, c, s, pc, lv, st))
      | some 13 => ry_if (ry_xm M (I, F, ht, c, s, pc, lv, st)) (ry_x_min d (I, F, ht, c, s, pc, lv, st))
      | _ => none) = _
    rw [hx]
    try rfl
  dsimp only at h
  rw [← ry_xm_eq h1 h2] at h
  rw [e, h]
  rfl
theorem ry_k_if {cnd : Jvm.ClassFile.Cond} {off : Int} {tgt nx : Nat} (ho : ry_off pc off = some tgt) (hn : pc + 3 = nx) (hd : decode M.2.1 pc = .ok (.ifCond cnd off, 3)) : ry_entOK (ry_xh xt sl ln im) T lw M pc (.inl (fun _ => ry_q_if cnd tgt nx)) := by
  subst hn
  refine ⟨_, _, hd, fun d I F ht c s lv st => ⟨ry_ifN _, fun zs h => ?_⟩⟩
  show ry_h_if cnd off (I, F, ht, c, s, pc, lv, st) = some zs
  have ho2 : ry_off (ry_zpc (I, F, ht, c, s, pc, lv, st)) off = some tgt := ho
  have h : ry_q_if cnd tgt (pc + 3) (I, F, ht, c, s, pc, lv, st) = some zs := h
  unfold ry_q_if at h
  unfold ry_h_if
  rw [ho2]
  split at h
  · rename_i e
    rw [e]
    exact h
  · cases h
theorem ry_k_icmp {cnd : Jvm.ClassFile.Cond} {off : Int} {tgt nx : Nat} (ho : ry_off pc off = some tgt) (hn : pc + 3 = nx) (hd : decode M.2.1 pc = .ok (.if_icmp cnd off, 3)) : ry_entOK (ry_xh xt sl ln im) T lw M pc (.inl (fun _ => ry_q_icmp cnd tgt nx)) := by
  subst hn
  refine ⟨_, _, hd, fun d I F ht c s lv st => ⟨ry_ifN _, fun zs h => ?_⟩⟩
  show ry_h_icmp cnd off (I, F, ht, c, s, pc, lv, st) = some zs
  have ho2 : ry_off (ry_zpc (I, F, ht, c, s, pc, lv, st)) off = some tgt := ho
  have h : ry_q_icmp cnd tgt (pc + 3) (I, F, ht, c, s, pc, lv, st) = some zs := h
  unfold ry_q_icmp at h
  unfold ry_h_icmp
  rw [ho2]
  split at h
  · rename_i e
    rw [e]
    exact h
  · cases h
theorem ry_k_lcmp {cnd : Jvm.ClassFile.Cond} {off : Int} {tgt nx : Nat} (ho : ry_off (pc + 1) off = some tgt) (hn : pc + 4 = nx) (hd2 : decode M.2.1 (pc + 1) = .ok (.ifCond cnd off, 3)) (hd : decode M.2.1 pc = .ok (.lcmp, 1)) : ry_entOK (ry_xh xt sl ln im) T lw M pc (.inl (fun _ => ry_q_lcmp cnd tgt nx)) := by
  subst hn
  refine ⟨_, _, hd, fun d I F ht c s lv st => ⟨ry_ifN _, fun zs h => ?_⟩⟩
  show ry_h_lcmp (decode M.2.1 (pc + 1)) (I, F, ht, c, s, pc, lv, st) = some zs
  have h : ry_q_lcmp cnd tgt (pc + 4) (I, F, ht, c, s, pc, lv, st) = some zs := h
  unfold ry_q_lcmp at h
  unfold ry_h_lcmp
  rw [hd2]
  split at h
  · rename_i b t e
    rw [e]
    dsimp only
    split at h
    · rename_i a t2 e2
      rw [e2]
      show (match ry_off (pc + 1) off with
        | some tgt => if ry_okL I a && ry_okL I b then some (ry_fork (I, F, ht, c, s, pc, lv, st) cnd a b tgt (pc + 4) t2) else none
        | none => none) = some zs
      rw [ho]
      exact h
    · cases h
  · cases h
theorem ry_k_goto {off : Int} {tgt : Nat} (ho : ry_off pc off = some tgt) (hd : decode M.2.1 pc = .ok (.goto off, 3)) : ry_entOK (ry_xh xt sl ln im) T lw M pc (.inl (fun _ => ry_q_goto tgt)) := by
  refine ⟨_, _, hd, fun d I F ht c s lv st => ⟨ry_ifN _, fun zs h => ?_⟩⟩
  show ry_h_goto off (I, F, ht, c, s, pc, lv, st) = some zs
  have ho2 : ry_off (ry_zpc (I, F, ht, c, s, pc, lv, st)) off = some tgt := ho
  unfold ry_h_goto
  rw [ho2]
  exact h
theorem ry_k_get {idx : Nat} {q : ry_Q} (hq : T.1 M.1 idx = some q) (hd : decode M.2.1 pc = .ok (.getfield idx, 3)) : ry_entOK (ry_xh xt sl ln im) T lw M pc (.inl (fun _ => ry_q_get q)) := by
  refine ⟨_, _, hd, fun d I F ht c s lv st => ⟨ry_ifN _, fun zs h => ?_⟩⟩
  dsimp only at h
  rw [ry_q_get_eq hq] at h
  exact h
theorem ry_k_put {idx : Nat} {q : ry_Q} {ini : Bool} (hq : T.1 M.1 idx = some q) (hi : M.2.2.2.2.2.1 = ini) (hd : decode M.2.1 pc = .ok (.putfield idx, 3)) : ry_entOK (ry_xh xt sl ln im) T lw M pc (.inl (fun _ => ry_q_put q ini)) := by
  subst hi
  refine ⟨_, _, hd, fun d I F ht c s lv st => ⟨ry_ifN _, fun zs h => ?_⟩⟩
  dsimp only at h
  rw [ry_q_put_eq hq] at h
  exact h
theorem ry_k_new {idx mc ms : Nat} {q : Nat × List Nat} (hq : T.2.1 M.1 idx = some q) (h1 : M.2.2.2.2.2.2.1 = mc) (h2 : M.2.2.2.2.2.2.2 = ms) (hd : decode M.2.1 pc = .ok (.new idx, 3)) : ry_entOK (ry_xh xt sl ln im) T lw M pc (.inl (fun _ => ry_q_new q mc ms)) := by
  subst h1; subst h2
  refine ⟨_, _, hd, fun d I F ht c s lv st => ⟨ry_ifN _, fun zs h => ?_⟩⟩
  dsimp only at h
  rw [ry_q_new_eq hq] at h
  exact h
theorem ry_k_newq {idx ci mc ms : Nat} (hq : T.2.2.1 M.1 idx = some ci) (h1 : M.2.2.2.2.2.2.1 = mc) (h2 : M.2.2.2.2.2.2.2 = ms) (hd : decode M.2.1 pc = .ok (.anewarray idx, 3)) : ry_entOK (ry_xh xt sl ln im) T lw M pc (.inl (fun _ => ry_q_newq ci mc ms)) := by
  subst h1; subst h2
  refine ⟨_, _, hd, fun d I F ht c s lv st => ⟨ry_ifN _, fun zs h => ?_⟩⟩
  dsimp only at h
  rw [ry_q_newq_eq hq] at h
  exact h
theorem ry_k_reti {mc ms : Nat} (h1 : M.2.2.2.2.2.2.1 = mc) (h2 : M.2.2.2.2.2.2.2 = ms) (hr : M.2.2.2.1 = some .int) (hd : decode M.2.1 pc = .ok (.ireturn, 1)) : ry_entOK (ry_xh xt sl ln im) T lw M pc (.inr (.inl (ry_q_reti mc ms))) := by
  refine ⟨_, _, hd, fun I F ht c s lv st E h => ?_⟩
  unfold ry_retk
  rw [hr, ry_q_may h1 h2]
  exact h
theorem ry_k_retz {mc ms : Nat} (h1 : M.2.2.2.2.2.2.1 = mc) (h2 : M.2.2.2.2.2.2.2 = ms) (hr : M.2.2.2.1 = some .boolean) (hd : decode M.2.1 pc = .ok (.ireturn, 1)) : ry_entOK (ry_xh xt sl ln im) T lw M pc (.inr (.inl (ry_q_retz mc ms))) := by
  refine ⟨_, _, hd, fun I F ht c s lv st E h => ?_⟩
  unfold ry_retk
  rw [hr, ry_q_may h1 h2]
  exact h
theorem ry_k_retl {mc ms : Nat} (h1 : M.2.2.2.2.2.2.1 = mc) (h2 : M.2.2.2.2.2.2.2 = ms) (hr : M.2.2.2.1 = some .long) (hd : decode M.2.1 pc = .ok (.lreturn, 1)) : ry_entOK (ry_xh xt sl ln im) T lw M pc (.inr (.inl (ry_q_retl mc ms))) := by
  refine ⟨_, _, hd, fun I F ht c s lv st E h => ?_⟩
  unfold ry_retk
  rw [hr, ry_q_may h1 h2]
  exact h
theorem ry_k_retv {mc ms : Nat} (h1 : M.2.2.2.2.2.2.1 = mc) (h2 : M.2.2.2.2.2.2.2 = ms) (hr : M.2.2.2.1 = none) (hd : decode M.2.1 pc = .ok (.return_, 1)) : ry_entOK (ry_xh xt sl ln im) T lw M pc (.inr (.inl (ry_q_retv mc ms))) := by
  refine ⟨_, _, hd, fun I F ht c s lv st E h => ?_⟩
  unfold ry_retk
  rw [hr, ry_q_may h1 h2]
  exact h
theorem ry_k_reta {mc ms : Nat} (h1 : M.2.2.2.2.2.2.1 = mc) (h2 : M.2.2.2.2.2.2.2 = ms) (hr : (∃ n, M.2.2.2.1 = some (.object n)) ∨ ∃ n, M.2.2.2.1 = some (.array n)) (hd : decode M.2.1 pc = .ok (.areturn, 1)) : ry_entOK (ry_xh xt sl ln im) T lw M pc (.inr (.inl (ry_q_reta mc ms))) := by
  refine ⟨_, _, hd, fun I F ht c s lv st E h => ?_⟩
  unfold ry_retk
  rcases hr with ⟨n, hr⟩ | ⟨n, hr⟩
  all_goals
    rw [hr, ry_q_may h1 h2]
    exact h
theorem ry_k_call0 {idx how n ci j_p : Nat} {M_p : ry_Mt} (hq : T.2.2.2.2.1 M.1 idx = some (how, n, ci, j_p)) (hM : T.2.2.2.2.2 j_p = some M_p) (hw : (how % 3 == 0 && decide (how < 6)) = true) (hx : xt M.1 idx = none) (hd : decode M.2.1 pc = .ok (.invokevirtual idx, 3)) : ry_entOK (ry_xh xt sl ln im) T lw M pc (.inr (.inr (j_p, M_p, ry_q_vcall M M_p n ci))) := by
  refine ⟨_, _, hd, hM, fun d I F ht c s lv st => ⟨rfl, ?_, fun as t h => ⟨(how, n, ci, j_p), ?_⟩⟩⟩
  · show ry_or (ry_if (3 == 3 && xt M.1 idx == some 14) _) _ = none
    rw [hx]
    rfl
  · unfold ry_prep ry_cidx
    unfold ry_q_vcall at h
    dsimp only at h ⊢
    rw [hq]
    dsimp only
    rw [hM]
    split at h
    · rename_i as2 t2 e
      rw [e]
      dsimp only
      rw [hw]
      split at h
      · rename_i k t3 e2
        obtain ⟨h1, h2⟩ := ry_if_ok h
        cases h2
        have hne : ¬ ((0 : Nat) = 1) := by decide
        rw [ry_q_rcv_eq] at e2
        rw [if_neg hne, e2]
        dsimp only
        rw [h1]
        rfl
      · cases h
    · cases h
theorem ry_k_call1 {idx how n ci j_p : Nat} {M_p : ry_Mt} (hq : T.2.2.2.2.1 M.1 idx = some (how, n, ci, j_p)) (hM : T.2.2.2.2.2 j_p = some M_p) (hw : (how % 3 == 1 && decide (how < 6)) = true) (hx : xt M.1 idx = none) (hd : decode M.2.1 pc = .ok (.invokestatic idx, 3)) : ry_entOK (ry_xh xt sl ln im) T lw M pc (.inr (.inr (j_p, M_p, ry_q_scall M M_p n))) := by
  refine ⟨_, _, hd, hM, fun d I F ht c s lv st => ⟨rfl, ?_, fun as t h => ⟨(how, n, ci, j_p), ?_⟩⟩⟩
  · have e : ry_xh xt sl ln im d M (.invokestatic idx) 3 (I, F, ht, c, s, pc, lv, st) = none := by
      show (match xt M.1 idx with
        | some 11 => ry_x_copy d (I, F, ht, c, s, pc, lv, st)
        | some 12 => ry_if (ry_xm M (I, F, ht, c, s, pc, lv, st)) (ry_x_fill d (I, F, ht, c, s, pc, lv, st))
        | some 13 => ry_if (ry_xm M (I, F, ht, c, s, pc, lv, st)) (ry_x_min d (I, F, ht, c, s, pc, lv, st))
        | _ => none) = _
      rw [hx]
      try rfl
    rw [e]
    rfl
  · unfold ry_prep ry_cidx
    unfold ry_q_scall at h
    dsimp only at h ⊢
    rw [hq]
    dsimp only
    rw [hM]
    split at h
    · rename_i as2 t2 e
      rw [e]
      dsimp only
      rw [hw]
      obtain ⟨h1, h2⟩ := ry_if_ok h
      cases h2
      rw [h1]
      rfl
    · cases h
theorem ry_k_call2 {idx how n ci j_p : Nat} {M_p : ry_Mt} (hq : T.2.2.2.2.1 M.1 idx = some (how, n, ci, j_p)) (hM : T.2.2.2.2.2 j_p = some M_p) (hw : (how % 3 == 2 && decide (how < 6)) = true) (hx : xt M.1 idx = none) (hd : decode M.2.1 pc = .ok (.invokespecial idx, 3)) : ry_entOK (ry_xh xt sl ln im) T lw M pc (.inr (.inr (j_p, M_p, ry_q_vcall M M_p n ci))) := by
  refine ⟨_, _, hd, hM, fun d I F ht c s lv st => ⟨rfl, ?_, fun as t h => ⟨(how, n, ci, j_p), ?_⟩⟩⟩
  · show ry_or (ry_if (3 == 3 && xt M.1 idx == some 10) _) _ = none
    rw [hx]
    rfl
  · unfold ry_prep ry_cidx
    unfold ry_q_vcall at h
    dsimp only at h ⊢
    rw [hq]
    dsimp only
    rw [hM]
    split at h
    · rename_i as2 t2 e
      rw [e]
      dsimp only
      rw [hw]
      split at h
      · rename_i k t3 e2
        obtain ⟨h1, h2⟩ := ry_if_ok h
        cases h2
        have hne : ¬ ((2 : Nat) = 1) := by decide
        rw [ry_q_rcv_eq] at e2
        rw [if_neg hne, e2]
        dsimp only
        rw [h1]
        rfl
      · cases h
    · cases h
end RYK
