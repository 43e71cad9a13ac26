section
/-- from a state to where the cut says; no end on the way -/
def ry_sg (ct : Nat → Nat → Option ry_Ent) (cut : Nat → Bool) : Nat → Nat → Nat → ry_Z → Option (List ry_Z)
  | 0, _, _, _ => none
  | f + 1, d, j, (I, F, ht, c, s, pc, lv, st) => match cut pc with
    | true => some [(I, F, ht, c, s, pc, lv, st)]
    | false => match ct j pc with
      | none => none
      | some (.inl g) => match g d (I, F, ht, c, s, pc, lv, st) with
        | none => none
        | some zs => ry_bind (ry_sg ct cut f d j) zs
      | some (.inr (.inl _)) => none
      | some (.inr (.inr (j_p, M_p, g))) => match d with
        | 0 => none
        | d' + 1 => match g (I, F, ht, c, s, pc, lv, st) with
          | none => none
          | some (as, t) => match ry_ex2 ct f d' j_p (I, F, ht, 0, 0, 0, ry_largs 0 as, []) with
            | none => none
            | some Es => ry_bind (fun E => ry_sg ct cut f (d' + 1) j (ry_back M_p (I, F, ht, c, s, pc, lv, st) t E)) Es
theorem ry_bind_mem {α β : Type} {g : α → Option (List β)} {l : List α} {ys : List β} (h : ry_bind g l = some ys) {a : α} (ha : a ∈ l) : ∃ xs, g a = some xs ∧ ∀ x ∈ xs, x ∈ ys := ry_bind_ok h a ha
end
section
/-! A REFLECTED MACHINE: what a place does, a kind each -/
/-- quicker ways to the same -/
noncomputable def ry_g {α : Type} (l : List α) : Nat → Option α := List.rec (motive := fun _ => Nat → Option α) (fun _ => none) (fun a _ ih n => Nat.rec (motive := fun _ => Option α) (some a) (fun m _ => ih m) n) l
theorem ry_g_eq {α : Type} : ∀ (l : List α) (k : Nat), ry_g l k = l[k]?
  | [], _ => rfl
  | _ :: _, 0 => rfl
  | _ :: l, k + 1 => ry_g_eq l k
noncomputable def ry_sk {α β : Type} (x : α) (l : List α) : Nat → (List α → β) → β := List.rec (motive := fun _ => Nat → (List α → β) → β) (fun _ K => K []) (fun a t ih n K => Nat.rec (motive := fun _ => β) (K (x :: t)) (fun m _ => ih m (fun t2 => K (a :: t2))) n) l
theorem ry_sk_eq {α β : Type} {x : α} : ∀ (l : List α) (k : Nat) (K : List α → β), ry_sk x l k K = K (l.set k x)
  | [], _, _ => rfl
  | _ :: _, 0, _ => rfl
  | a :: l, k + 1, K => ry_sk_eq l k (fun t => K (a :: t))
noncomputable def ry_pk {α β : Type} (x : α) (l : List α) : (List α → β) → β := List.rec (motive := fun _ => (List α → β) → β) (fun K => K [x]) (fun a _ ih K => ih (fun t => K (a :: t))) l
theorem ry_pk_eq {α β : Type} {x : α} : ∀ (l : List α) (K : List α → β), ry_pk x l K = K (l ++ [x])
  | [], _ => rfl
  | a :: l, K => ry_pk_eq l (fun t => K (a :: t))
noncomputable def ry_ln {α : Type} (l : List α) : Nat := List.rec (motive := fun _ => Nat) 0 (fun _ _ ih => Nat.succ ih) l
theorem ry_ln_eq {α : Type} : ∀ l : List α, ry_ln l = l.length
  | [] => rfl
  | _ :: l => congrArg Nat.succ (ry_ln_eq l)
noncomputable def ry_nk {β : Type} (n : Nat) (K : Nat → β) : β := Nat.rec (motive := fun _ => β) (K 0) (fun m _ => K (Nat.succ m)) n
theorem ry_nk_eq {β : Type} (n : Nat) (K : Nat → β) : ry_nk n K = K n := by
  cases n <;> rfl
noncomputable def ry_l {α : Type} (l : List (Nat × α)) (i : Nat) : Option α := List.rec (motive := fun _ => Option α) none (fun q _ ih => Bool.rec (motive := fun _ => Option α) ih (some q.2) (Nat.beq q.1 i)) l
theorem ry_l_eq {i : Nat} : ∀ l : List (Nat × ry_V), ry_l l i = ry_lk l i
  | [] => rfl
  | q :: l => by
    have ih := ry_l_eq (i := i) l
    show Bool.rec (motive := fun _ => Option ry_V) (ry_l l i) (some q.2) (Nat.beq q.1 i) = ry_lk (q :: l) i
    rw [ry_lk]
    by_cases h : q.1 = i
    · rw [if_pos h, Nat.beq_eq.mpr h]
    · rw [if_neg h, Bool.eq_false_iff.mpr fun h2 => h (Nat.beq_eq.mp h2)]
      exact ih
def ry_q_mc (mc ms : Nat) (z : ry_Z) : Bool := Nat.ble z.2.2.2.1 mc && Nat.ble z.2.2.2.2.1 ms
def ry_q_retv (mc ms : Nat) (z : ry_Z) : Option ry_End := ry_if (ry_q_mc mc ms z) (match ry_zst z with
  | [] => some (z.1, z.2.1, z.2.2.1, none)
  | _ => none)
def ry_q_icmp (cnd : Jvm.ClassFile.Cond) (tgt nx : Nat) (z : ry_Z) : Option (List ry_Z) := match ry_pi (ry_zst z) with
  | some (b, t) => match ry_pi t with
    | some (a, t) => if ry_okI z.1 a && ry_okI z.1 b then some (ry_fork z cnd a b tgt nx t) else none
    | none => none
  | none => none
def ry_q_goto (tgt : Nat) (z : ry_Z) : Option (List ry_Z) := some [ry_jp z.1 z.2.1 z tgt (ry_zst z)]
noncomputable def ry_q_get (q : ry_Q) (z : ry_Z) : Option (List ry_Z) := match ry_pr (ry_zst z) with
  | some (some k, t) => match ry_g z.2.2.1 k with
    | some (.inl (ci, fs)) => match Nat.beq ci q.1 with
      | true => (match ry_g fs q.2.1 with
        | some (.inl v) => some [ry_nx z 3 (v :: t)]
        | _ => none)
      | false => none
    | _ => none
  | _ => none
theorem ry_beqd {α : Type} {a b : Nat} {x y : α} : (match Nat.beq a b with
    | true => x
    | false => y) = if a = b then x else y := by
  by_cases h : a = b
  · rw [if_pos h, Nat.beq_eq.mpr h]
  · rw [if_neg h, Bool.eq_false_iff.mpr fun h2 => h (Nat.beq_eq.mp h2)]
theorem ry_q_get_eq {fr : Nat → Option ry_Q} {idx : Nat} {q : ry_Q} (hq : fr idx = some q) (z : ry_Z) : ry_q_get q z = ry_h_get fr idx z := by
  unfold ry_q_get ry_h_get
  rw [hq]
  rcases ry_pr (ry_zst z) with _ | ⟨_ | k, t⟩
  · rfl
  · rfl
  · dsimp only
    rw [ry_g_eq]
    rcases (z.2.2.1)[k]? with _ | ⟨ci, fs⟩ | c
    · rfl
    · dsimp only
      rw [ry_beqd, ry_g_eq]
      try rfl
    · rfl
noncomputable def ry_q_put (q : ry_Q) (ini : Bool) (z : ry_Z) : Option (List ry_Z) := match ry_pv (ry_zst z) with
  | some (v, t) => match ry_pr t with
    | some (some k, t2) => match ry_g z.2.2.1 k with
      | some (.inl (ci, fs)) => ry_if (Nat.beq ci q.1 && ((ry_g fs q.2.1).isSome && (ry_fit z.1 q.2.2.1 v && (!q.2.2.2.1 || (ini && !q.2.2.2.2))))) (ry_sk (.inl v) fs q.2.1 (fun fs2 => ry_sk (.inl (ci, fs2)) z.2.2.1 k (fun ht2 => some [ry_nxh ht2 z 3 t2])))
      | _ => none
    | _ => none
  | _ => none
theorem ry_q_put_eq {fr : Nat → Option ry_Q} {ini : Bool} {idx : Nat} {q : ry_Q} (hq : fr idx = some q) (z : ry_Z) : ry_q_put q ini z = ry_h_put fr ini idx z := by
  unfold ry_q_put ry_h_put
  rw [hq]
  rcases ry_pv (ry_zst z) with _ | ⟨v, t⟩
  · rfl
  · dsimp only
    rcases ry_pr t with _ | ⟨_ | k, t2⟩
    · rfl
    · rfl
    · dsimp only
      rw [ry_g_eq]
      rcases (z.2.2.1)[k]? with _ | ⟨ci, fs⟩ | c
      · rfl
      · dsimp only
        rw [ry_sk_eq, ry_sk_eq, ry_g_eq]
        have e : (Nat.beq ci q.1 && ((fs[q.2.1]?).isSome && (ry_fit z.1 q.2.2.1 v && (!q.2.2.2.1 || (ini && !q.2.2.2.2))))) = decide (ci = q.1 ∧ q.2.1 < fs.length ∧ ry_fit z.1 q.2.2.1 v = true ∧ (q.2.2.2.1 = false ∨ (ini = true ∧ q.2.2.2.2 = false))) := by
          rw [Bool.eq_iff_iff]
          simp
        rw [e]
        by_cases h : ci = q.1 ∧ q.2.1 < fs.length ∧ ry_fit z.1 q.2.2.1 v = true ∧ (q.2.2.2.1 = false ∨ (ini = true ∧ q.2.2.2.2 = false))
        · rw [if_pos h, decide_eq_true h]
          rfl
        · rw [if_neg h, decide_eq_false h]
          rfl
      · rfl
noncomputable def ry_q_ast (okc : Nat → Bool) (okv : ry_I → List ry_C → Nat → ry_V → Bool) (z : ry_Z) : Option (List ry_Z) := match ry_pv (ry_zst z) with
  | some (v, t0) => match ry_pi t0 with
    | some (ix, t) => match ry_pr t with
      | some (some k, t2) => match ry_g z.2.2.1 k with
        | some (.inr (tc, n, df, ov)) => if okc tc && okv z.1 z.2.2.1 tc v then (match ry_bi z.1 ix with
          | some (lo, hi) => if 0 ≤ lo ∧ hi < (n : Int) ∧ lo = hi then ry_sk (.inr (tc, n, df, ry_ovset ov df lo.toNat v)) z.2.2.1 k (fun ht2 => some [ry_nxh ht2 z 1 t2]) else none
          | none => none) else none
        | _ => none
      | _ => none
    | none => none
  | none => none
theorem ry_q_ast_eq (okc : Nat → Bool) (okv : ry_I → List ry_C → Nat → ry_V → Bool) (z : ry_Z) : ry_q_ast okc okv z = ry_h_ast okc okv z := by
  unfold ry_q_ast ry_h_ast
  simp only [ry_g_eq, ry_sk_eq]
  try rfl
noncomputable def ry_q_nxa (x : ry_C) (n : Nat) (z : ry_Z) (d : Nat) (t : List ry_V) : Option (List ry_Z) := match z with
  | (I0, F1, ht0, c0, s0, pc0, lv0, _) => ry_pk x ht0 (fun ht1 => ry_nk (ry_ln ht0) (fun k => some [(I0, F1, ht1, c0 + 1, s0 + n, pc0 + d, lv0, .inl (some k) :: t)]))
theorem ry_q_nxa_eq (x : ry_C) (n : Nat) (z : ry_Z) (d : Nat) (t : List ry_V) : ry_q_nxa x n z d t = some [ry_nxa x n z d t] := by
  obtain ⟨I0, F1, ht0, c0, s0, pc0, lv0, st⟩ := z
  unfold ry_q_nxa
  dsimp only
  rw [ry_pk_eq, ry_nk_eq, ry_ln_eq]
  rfl
noncomputable def ry_q_new (q : Nat × List Nat) (mc ms : Nat) (z : ry_Z) : Option (List ry_Z) :=
  if z.2.2.2.1 + 1 ≤ mc ∧ z.2.2.2.2.1 + q.2.length ≤ ms then ry_q_nxa (.inl (q.1, q.2.map (fun tc => .inl (ry_dv tc)))) q.2.length z 3 (ry_zst z) else none
theorem ry_q_new_eq {cr : Nat → Option (Nat × List Nat)} {mc ms idx : Nat} {q : Nat × List Nat} (hq : cr idx = some q) (z : ry_Z) : ry_q_new q mc ms z = ry_h_new cr mc ms idx z := by
  unfold ry_q_new ry_h_new
  rw [hq, ry_q_nxa_eq]
noncomputable def ry_q_newa (mc ms tc : Nat) (z : ry_Z) : Option (List ry_Z) := match ry_pi (ry_zst z) with
  | some (e, t) => match ry_len z.1 e with
    | some n => if z.2.2.2.1 + 1 ≤ mc ∧ z.2.2.2.2.1 + n ≤ ms then ry_q_nxa (.inr (tc, n, .inl (ry_dv tc), [])) n z 2 t else none
    | none => none
  | none => none
theorem ry_q_newa_eq {mc ms tc : Nat} {a : ArrayType} (ha : ry_atc a = some tc) (z : ry_Z) : ry_q_newa mc ms tc z = ry_h_newa mc ms a z := by
  unfold ry_q_newa ry_h_newa
  rw [ha]
  simp only [ry_q_nxa_eq]
  rcases ry_pi (ry_zst z) with _ | ⟨e, t⟩ <;> rfl
noncomputable def ry_q_newq (ci mc ms : Nat) (z : ry_Z) : Option (List ry_Z) := match ry_pi (ry_zst z) with
  | some (e, t) => match ry_len z.1 e with
    | some n => if z.2.2.2.1 + 1 ≤ mc ∧ z.2.2.2.2.1 + n ≤ ms then ry_q_nxa (.inr (ci + 5, n, .inl (.inl none), [])) n z 3 t else none
    | none => none
  | none => none
theorem ry_q_newq_eq {ar : Nat → Option Nat} {mc ms idx ci : Nat} (ha : ar idx = some ci) (z : ry_Z) : ry_q_newq ci mc ms z = ry_h_newq ar mc ms idx z := by
  unfold ry_q_newq ry_h_newq
  rw [ha]
  simp only [ry_q_nxa_eq]
  rcases ry_pi (ry_zst z) with _ | ⟨e, t⟩ <;> rfl
noncomputable def ry_q_load (kd i d : Nat) (z : ry_Z) : Option (List ry_Z) := match ry_l (ry_zlv z) i with
  | some (.inr (j, e)) => match Nat.beq j kd with
    | true => some [ry_nx z d (.inr (j, e) :: ry_zst z)]
    | false => none
  | _ => none
theorem ry_q_load_eq (kd i d : Nat) (z : ry_Z) : ry_q_load kd i d z = ry_h_load kd i d z := by
  unfold ry_q_load ry_h_load
  simp only [ry_l_eq, ry_beqd]
  rfl
noncomputable def ry_q_loadA (i d : Nat) (z : ry_Z) : Option (List ry_Z) := match ry_l (ry_zlv z) i with
  | some (.inl o) => some [ry_nx z d (.inl o :: ry_zst z)]
  | some (.inr (j + 2, e)) => some [ry_nx z d (.inr (j + 2, e) :: ry_zst z)]
  | _ => none
theorem ry_q_loadA_eq (i d : Nat) (z : ry_Z) : ry_q_loadA i d z = ry_h_loadA i d z := by
  unfold ry_q_loadA ry_h_loadA
  simp only [ry_l_eq]
  rfl
noncomputable def ry_q_rcv (ht : List ry_C) (ci : Nat) (t : List ry_V) : Option (Nat × List ry_V) := match ry_pr t with
  | some (some k, t2) => match ry_g ht k with
    | some (.inl (ci', _)) => ry_if (ci' == ci) (some (k, t2))
    | _ => none
  | _ => none
theorem ry_q_rcv_eq (ht : List ry_C) (ci : Nat) (t : List ry_V) : ry_q_rcv ht ci t = ry_rcv ht ci t := by
  unfold ry_q_rcv ry_rcv
  simp only [ry_g_eq]
  try rfl
noncomputable def ry_q_vcall (M M_p : ry_Mt) (n ci : Nat) (z : ry_Z) : Option (List ry_V × List ry_V) := match ry_take n [] (ry_zst z) with
  | some (as, t) => match ry_q_rcv z.2.2.1 ci t with
    | some (k, t2) => ry_if (ry_may M M_p z (.inl (some k) :: as) t2) (some (.inl (some k) :: as, t2))
    | none => none
  | none => none
noncomputable def ry_q_fill (d : Nat) (z : ry_Z) : Option (List ry_Z) := match ry_pi (ry_zst z) with
  | some (v, t) => match ry_pr t with
    | some (some k, t2) => match ry_g z.2.2.1 k with
      | some (.inr (tc, n, _, _)) => ry_if (tc == 0 && (decide (1 ≤ d) && (decide (ry_cats t2 ≤ 8) && decide (n < 2000000000)))) (ry_sk (.inr (0, n, .inl (.inr (0, v)), [])) z.2.2.1 k (fun h => some [ry_nxh h z 3 t2]))
      | _ => none
    | _ => none
  | none => none
theorem ry_q_fill_eq (d : Nat) (z : ry_Z) : ry_q_fill d z = ry_x_fill d z := by
  unfold ry_q_fill ry_x_fill
  simp only [ry_g_eq, ry_sk_eq]
  try rfl
theorem ry_ifN {α : Type} (b : Bool) : ry_if b (none : Option α) = none := by
  cases b <;> rfl
theorem ry_q_may {M : ry_Mt} {mc ms : Nat} {z : ry_Z} {α : Type} {x : Option α} (h1 : M.2.2.2.2.2.2.1 = mc) (h2 : M.2.2.2.2.2.2.2 = ms) : ry_if (1 == 1 && (decide (z.2.2.2.1 ≤ M.2.2.2.2.2.2.1) && decide (z.2.2.2.2.1 ≤ M.2.2.2.2.2.2.2))) x = ry_if (ry_q_mc mc ms z) x := by
  subst h1; subst h2
  have e : ∀ a b : Nat, decide (a ≤ b) = Nat.ble a b := fun a b => by
    rw [Bool.eq_iff_iff, decide_eq_true_eq, Nat.ble_eq]
  unfold ry_q_mc
  rw [e, e]
  rfl
theorem ry_xm_eq {M : ry_Mt} {mc ms : Nat} {z : ry_Z} (h1 : M.2.2.2.2.2.2.1 = mc) (h2 : M.2.2.2.2.2.2.2 = ms) : ry_xm M z = ry_q_mc mc ms z := by
  subst h1; subst h2
  have e : ∀ a b : Nat, decide (a ≤ b) = Nat.ble a b := fun a b => by
    rw [Bool.eq_iff_iff, decide_eq_true_eq, Nat.ble_eq]
  unfold ry_q_mc ry_xm
  rw [e, e]
section RYK
variable {T : ry_Tb} {lw : Bool} {M : ry_Mt} {pc : Nat} {xt sl : Nat → Nat → Option Nat} {ln : List Nat} {im : ry_Im}
theorem ry_k_iconst {n m : Int} (hn : n = m) (hd : decode M.2.1 pc = .ok (.iconst n, 1)) : ry_entOK (ry_xh xt sl ln im) T lw M pc (.inl (fun _ => ry_h_push (ry_n m) 1)) := by
  subst hn
  exact ⟨_, _, hd, fun _ _ _ _ _ _ _ _ => ⟨ry_ifN _, fun _ h => h⟩⟩
theorem ry_k_bipush {n m : Int} (hn : (Int8.ofInt n).toInt32.toInt = m) (hd : decode M.2.1 pc = .ok (.bipush n, 2)) : ry_entOK (ry_xh xt sl ln im) T lw M pc (.inl (fun _ => ry_h_push (ry_n m) 2)) := by
  subst hn
  exact ⟨_, _, hd, fun _ _ _ _ _ _ _ _ => ⟨ry_ifN _, fun _ h => h⟩⟩
theorem ry_k_lconst {n : Fin 2} {m : Int} (hn : ((n : Nat) : Int) = m) (hd : decode M.2.1 pc = .ok (.lconst n, 1)) : ry_entOK (ry_xh xt sl ln im) T lw M pc (.inl (fun _ => ry_h_push (.inr (1, (0, m))) 1)) := by
  subst hn
  exact ⟨_, _, hd, fun _ _ _ _ _ _ _ _ => ⟨ry_ifN _, fun _ h => h⟩⟩
theorem ry_k_iload_n {k : Fin 4} {i : Nat} (hk : (k : Nat) = i) (hd : decode M.2.1 pc = .ok (.iload_n k, 1)) : ry_entOK (ry_xh xt sl ln im) T lw M pc (.inl (fun _ => ry_q_load 0 i 1)) := by
  subst hk
  refine ⟨_, _, hd, fun d I F ht c s lv st => ⟨ry_ifN _, fun zs h => ?_⟩⟩
  try dsimp only at h
  rw [ry_q_load_eq] at h
  exact h
theorem ry_k_aload_n {k : Fin 4} {i : Nat} (hk : (k : Nat) = i) (hd : decode M.2.1 pc = .ok (.aload_n k, 1)) : ry_entOK (ry_xh xt sl ln im) T lw M pc (.inl (fun _ => ry_q_loadA i 1)) := by
  subst hk
  refine ⟨_, _, hd, fun d I F ht c s lv st => ⟨ry_ifN _, fun zs h => ?_⟩⟩
  try dsimp only at h
  rw [ry_q_loadA_eq] at h
  exact h
theorem ry_k_istore_n {k : Fin 4} {i nL : Nat} (hk : (k : Nat) = i) (hL : M.2.2.1 = nL) (hd : decode M.2.1 pc = .ok (.istore_n k, 1)) : ry_entOK (ry_xh xt sl ln im) T lw M pc (.inl (fun _ => ry_h_istore nL i 1)) := by
  subst hk; subst hL
  exact ⟨_, _, hd, fun _ _ _ _ _ _ _ _ => ⟨ry_ifN _, fun _ h => h⟩⟩
theorem ry_k_astore_n {k : Fin 4} {i nL : Nat} (hk : (k : Nat) = i) (hL : M.2.2.1 = nL) (hd : decode M.2.1 pc = .ok (.astore_n k, 1)) : ry_entOK (ry_xh xt sl ln im) T lw M pc (.inl (fun _ => ry_h_astore nL i 1)) := by
  subst hk; subst hL
  exact ⟨_, _, hd, fun _ _ _ _ _ _ _ _ => ⟨ry_ifN _, fun _ h => h⟩⟩
theorem ry_k_iinc {i nL : Nat} {n m : Int} (hn : n = m) (hL : M.2.2.1 = nL) (hd : decode M.2.1 pc = .ok (.iinc i n, 3)) : ry_entOK (ry_xh xt sl ln im) T lw M pc (.inl (fun _ => ry_h_iinc nL i m)) := by
  subst hL; subst hn
  exact ⟨_, _, hd, fun _ _ _ _ _ _ _ _ => ⟨ry_ifN _, fun _ h => h⟩⟩
theorem ry_k_dup (hd : decode M.2.1 pc = .ok (.dup, 1)) : ry_entOK (ry_xh xt sl ln im) T lw M pc (.inl (fun _ => ry_h_dup)) := ⟨_, _, hd, fun _ _ _ _ _ _ _ _ => ⟨ry_ifN _, fun _ h => h⟩⟩
theorem ry_k_iastore (hd : decode M.2.1 pc = .ok (.iastore, 1)) : ry_entOK (ry_xh xt sl ln im) T lw M pc (.inl (fun _ => ry_q_ast (ry_isTc 0) (fun I _ _ v => ry_fit I 0 v))) := by
  refine ⟨_, _, hd, fun d I F ht c s lv st => ⟨ry_ifN _, fun zs h => ?_⟩⟩
  try dsimp only at h
  rw [ry_q_ast_eq] at h
  exact h
theorem ry_k_lastore (hd : decode M.2.1 pc = .ok (.lastore, 1)) : ry_entOK (ry_xh xt sl ln im) T lw M pc (.inl (fun _ => ry_q_ast (ry_isTc 2) (fun I _ _ v => ry_fit I 2 v))) := by
  refine ⟨_, _, hd, fun d I F ht c s lv st => ⟨ry_ifN _, fun zs h => ?_⟩⟩
  try dsimp only at h
  rw [ry_q_ast_eq] at h
  exact h
theorem ry_k_aastore (hd : decode M.2.1 pc = .ok (.aastore, 1)) : ry_entOK (ry_xh xt sl ln im) T lw M pc (.inl (fun _ => ry_q_ast ry_isRef ry_fitA)) := by
  refine ⟨_, _, hd, fun d I F ht c s lv st => ⟨ry_ifN _, fun zs h => ?_⟩⟩
  try dsimp only at h
  rw [ry_q_ast_eq] at h
  exact h
theorem ry_k_newarray {a : ArrayType} {mc ms tc : Nat} (ha : ry_atc a = some tc) (h1 : M.2.2.2.2.2.2.1 = mc) (h2 : M.2.2.2.2.2.2.2 = ms) (hd : decode M.2.1 pc = .ok (.newarray a, 2)) : ry_entOK (ry_xh xt sl ln im) T lw M pc (.inl (fun _ => ry_q_newa mc ms tc)) := by
  subst h1; subst h2
  refine ⟨_, _, hd, fun d I F ht c s lv st => ⟨ry_ifN _, fun zs h => ?_⟩⟩
  dsimp only at h
  rw [ry_q_newa_eq ha] at h
  exact h
theorem ry_k_ldc2 {idx : Nat} {v : Int} (hv : T.2.2.2.1 M.1 idx = some (.inr (1, (0, v)))) (hd : decode M.2.1 pc = .ok (.ldc2_w idx, 3)) : ry_entOK (ry_xh xt sl ln im) T lw M pc (.inl (fun _ => ry_h_push (.inr (1, (0, v))) 3)) := by
  refine ⟨_, _, hd, fun d I F ht c s lv st => ⟨ry_ifN _, fun zs h => ?_⟩⟩
  show ry_h_const T.2.2.2.1 M.1 idx 1 3 _ = some zs
  unfold ry_h_const
  rw [hv]
  exact h
theorem ry_k_sipush {n m : Int} (hn : (Int16.ofInt n).toInt32.toInt = m) (hi : im M n pc = false) (hd : decode M.2.1 pc = .ok (.sipush n, 3)) : ry_entOK (ry_xh xt sl ln im) T lw M pc (.inl (fun _ => ry_h_push (ry_n m) 3)) := by
  subst hn
  refine ⟨_, _, hd, fun d I F ht c s lv st => ⟨ry_ifN _, fun zs h => ?_⟩⟩
  show ry_or (ry_if (im M n pc) (ry_x_image _)) _ = some zs
  rw [hi]
  exact h
theorem ry_k_init {idx : Nat} (hx : xt M.1 idx = some 10) (hd : decode M.2.1 pc = .ok (.invokespecial idx, 3)) : ry_entOK (ry_xh xt sl ln im) T lw M pc (.inl ry_x_init) := by
  refine ⟨_, _, hd, fun d I F ht c s lv st => ⟨ry_ifN _, fun zs h => ?_⟩⟩
  show ry_or (ry_if (3 == 3 && xt M.1 idx == some 10) (ry_x_init d _)) _ = some zs
  rw [hx]
  show ry_or (ry_x_init d (I, F, ht, c, s, pc, lv, st)) _ = some zs
  rw [h]
  rfl
theorem ry_k_fill {idx mc ms : Nat} (h1 : M.2.2.2.2.2.2.1 = mc) (h2 : M.2.2.2.2.2.2.2 = ms) (hx : xt M.1 idx = some 12) (hd : decode M.2.1 pc = .ok (.invokestatic idx, 3)) : ry_entOK (ry_xh xt sl ln im) T lw M pc (.inl (fun d z => ry_if (ry_q_mc mc ms z) (ry_q_fill d z))) := by
  refine ⟨_, _, hd, fun d I F ht c s lv st => ⟨ry_ifN _, fun zs h => ?_⟩⟩
  have e : ry_xh xt sl ln im d M (.invokestatic idx) 3 (I, F, ht, c, s, pc, lv, st) = ry_if (ry_xm M (I, F, ht, c, s, pc, lv, st)) (ry_x_fill d (I, F, ht, c, s, pc, lv, st)) := by
    show (match xt M.1 idx with
      | some 11 => ry_x_copy d (I, F, ht, c, s, pc, lv, st)
      | some 12 => ry_if (ry_xm M (I, F, ht, c, s, pc, lv, st)) (ry_x_fill d (I, F, ht, c, s, pc, lv, st))
      | some 13 => ry_if (ry_xm M (I, F, ht, c, s, pc, lv, st)) (ry_x_min d (I, F, ht, c, s, pc, lv, st))
      | _ => none) = _
    rw [hx]
    try rfl
  dsimp only at h
  rw [ry_q_fill_eq, ← ry_xm_eq h1 h2] at h
  rw [e, h]
  rfl
theorem ry_k_icmp {cnd : Jvm.ClassFile.Cond} {off : Int} {tgt nx : Nat} (ho : ry_off pc off = some tgt) (hn : pc + 3 = nx) (hd : decode M.2.1 pc = .ok (.if_icmp cnd off, 3)) : ry_entOK (ry_xh xt sl ln im) T lw M pc (.inl (fun _ => ry_q_icmp cnd tgt nx)) := by
  subst hn
  refine ⟨_, _, hd, fun d I F ht c s lv st => ⟨ry_ifN _, fun zs h => ?_⟩⟩
  show ry_h_icmp cnd off (I, F, ht, c, s, pc, lv, st) = some zs
  have ho2 : ry_off (ry_zpc (I, F, ht, c, s, pc, lv, st)) off = some tgt := ho
  have h : ry_q_icmp cnd tgt (pc + 3) (I, F, ht, c, s, pc, lv, st) = some zs := h
  unfold ry_q_icmp at h
  unfold ry_h_icmp
  rw [ho2]
  split at h
  · rename_i e
    rw [e]
    exact h
  · cases h
theorem ry_k_goto {off : Int} {tgt : Nat} (ho : ry_off pc off = some tgt) (hd : decode M.2.1 pc = .ok (.goto off, 3)) : ry_entOK (ry_xh xt sl ln im) T lw M pc (.inl (fun _ => ry_q_goto tgt)) := by
  refine ⟨_, _, hd, fun d I F ht c s lv st => ⟨ry_ifN _, fun zs h => ?_⟩⟩
  show ry_h_goto off (I, F, ht, c, s, pc, lv, st) = some zs
  have ho2 : ry_off (ry_zpc (I, F, ht, c, s, pc, lv, st)) off = some tgt := ho
  unfold ry_h_goto
  rw [ho2]
  exact h
theorem ry_k_get {idx : Nat} {q : ry_Q} (hq : T.1 M.1 idx = some q) (hd : decode M.2.1 pc = .ok (.getfield idx, 3)) : ry_entOK (ry_xh xt sl ln im) T lw M pc (.inl (fun _ => ry_q_get q)) := by
  refine ⟨_, _, hd, fun d I F ht c s lv st => ⟨ry_ifN _, fun zs h => ?_⟩⟩
  dsimp only at h
  rw [ry_q_get_eq hq] at h
  exact h
theorem ry_k_put {idx : Nat} {q : ry_Q} {ini : Bool} (hq : T.1 M.1 idx = some q) (hi : M.2.2.2.2.2.1 = ini) (hd : decode M.2.1 pc = .ok (.putfield idx, 3)) : ry_entOK (ry_xh xt sl ln im) T lw M pc (.inl (fun _ => ry_q_put q ini)) := by
  subst hi
  refine ⟨_, _, hd, fun d I F ht c s lv st => ⟨ry_ifN _, fun zs h => ?_⟩⟩
  dsimp only at h
  rw [ry_q_put_eq hq] at h
  exact h
theorem ry_k_new {idx mc ms : Nat} {q : Nat × List Nat} (hq : T.2.1 M.1 idx = some q) (h1 : M.2.2.2.2.2.2.1 = mc) (h2 : M.2.2.2.2.2.2.2 = ms) (hd : decode M.2.1 pc = .ok (.new idx, 3)) : ry_entOK (ry_xh xt sl ln im) T lw M pc (.inl (fun _ => ry_q_new q mc ms)) := by
  subst h1; subst h2
  refine ⟨_, _, hd, fun d I F ht c s lv st => ⟨ry_ifN _, fun zs h => ?_⟩⟩
  dsimp only at h
  rw [ry_q_new_eq hq] at h
  exact h
theorem ry_k_newq {idx ci mc ms : Nat} (hq : T.2.2.1 M.1 idx = some ci) (h1 : M.2.2.2.2.2.2.1 = mc) (h2 : M.2.2.2.2.2.2.2 = ms) (hd : decode M.2.1 pc = .ok (.anewarray idx, 3)) : ry_entOK (ry_xh xt sl ln im) T lw M pc (.inl (fun _ => ry_q_newq ci mc ms)) := by
  subst h1; subst h2
  refine ⟨_, _, hd, fun d I F ht c s lv st => ⟨ry_ifN _, fun zs h => ?_⟩⟩
  dsimp only at h
  rw [ry_q_newq_eq hq] at h
  exact h
theorem ry_k_retv {mc ms : Nat} (h1 : M.2.2.2.2.2.2.1 = mc) (h2 : M.2.2.2.2.2.2.2 = ms) (hr : M.2.2.2.1 = none) (hd : decode M.2.1 pc = .ok (.return_, 1)) : ry_entOK (ry_xh xt sl ln im) T lw M pc (.inr (.inl (ry_q_retv mc ms))) := by
  refine ⟨_, _, hd, fun I F ht c s lv st E h => ?_⟩
  unfold ry_retk
  rw [hr, ry_q_may h1 h2]
  exact h
theorem ry_k_call0 {idx how n ci j_p : Nat} {M_p : ry_Mt} (hq : T.2.2.2.2.1 M.1 idx = some (how, n, ci, j_p)) (hM : T.2.2.2.2.2 j_p = some M_p) (hw : (how % 3 == 0 && decide (how < 6)) = true) (hx : xt M.1 idx = none) (hd : decode M.2.1 pc = .ok (.invokevirtual idx, 3)) : ry_entOK (ry_xh xt sl ln im) T lw M pc (.inr (.inr (j_p, M_p, ry_q_vcall M M_p n ci))) := by
  refine ⟨_, _, hd, hM, fun d I F ht c s lv st => ⟨rfl, ?_, fun as t h => ⟨(how, n, ci, j_p), ?_⟩⟩⟩
  · show ry_or (ry_if (3 == 3 && xt M.1 idx == some 14) _) _ = none
    rw [hx]
    rfl
  · unfold ry_prep ry_cidx
    unfold ry_q_vcall at h
    dsimp only at h ⊢
    rw [hq]
    dsimp only
    rw [hM]
    split at h
    · rename_i as2 t2 e
      rw [e]
      dsimp only
      rw [hw]
      split at h
      · rename_i k t3 e2
        obtain ⟨h1, h2⟩ := ry_if_ok h
        cases h2
        have hne : ¬ ((0 : Nat) = 1) := by decide
        rw [ry_q_rcv_eq] at e2
        rw [if_neg hne, e2]
        dsimp only
        rw [h1]
        rfl
      · cases h
    · cases h
theorem ry_k_call2 {idx how n ci j_p : Nat} {M_p : ry_Mt} (hq : T.2.2.2.2.1 M.1 idx = some (how, n, ci, j_p)) (hM : T.2.2.2.2.2 j_p = some M_p) (hw : (how % 3 == 2 && decide (how < 6)) = true) (hx : xt M.1 idx = none) (hd : decode M.2.1 pc = .ok (.invokespecial idx, 3)) : ry_entOK (ry_xh xt sl ln im) T lw M pc (.inr (.inr (j_p, M_p, ry_q_vcall M M_p n ci))) := by
  refine ⟨_, _, hd, hM, fun d I F ht c s lv st => ⟨rfl, ?_, fun as t h => ⟨(how, n, ci, j_p), ?_⟩⟩⟩
  · show ry_or (ry_if (3 == 3 && xt M.1 idx == some 10) _) _ = none
    rw [hx]
    rfl
  · unfold ry_prep ry_cidx
    unfold ry_q_vcall at h
    dsimp only at h ⊢
    rw [hq]
    dsimp only
    rw [hM]
    split at h
    · rename_i as2 t2 e
      rw [e]
      dsimp only
      rw [hw]
      split at h
      · rename_i k t3 e2
        obtain ⟨h1, h2⟩ := ry_if_ok h
        cases h2
        have hne : ¬ ((2 : Nat) = 1) := by decide
        rw [ry_q_rcv_eq] at e2
        rw [if_neg hne, e2]
        dsimp only
        rw [h1]
        rfl
      · cases h
    · cases h
end RYK
end
section
/-! THE INTRINSICS ARE SOUND -/
section RYX
variable {G NW : List Jvm.Cond} {AO : List String} {cl : List vw_C} {nm : Nat → String} {A : Nat → Prop} {xa : Nat → Nat} {PX : State → Prop} {l : Launch} {D : va_G}
variable {p : Program} {e : Env} {R : Room} {s : State} {m : MethodId} {args : Array Value} {below : List Frame} {meth : Method} {c : Code} {Q : State → Prop} {H0 H : Heap} {locs : List Loc} {ls : Array Slot} {r : Nat → Int} {ad : Nat → Nat}
variable {M : ry_Mt} {z : ry_Z} {zs : List ry_Z} {d idx : Nat}
theorem ry_x_init_ok (hF : ry_Fr G NW AO PX p s m args meth c M) (hn : nm M.1 = M.2.2.2.2.1.cls) (hd : d ≤ R.frames) (hdl : d * 40 ≤ R.locals) (hw : Jvm.Cond.methodLink (nm M.1) idx Lib.objectInit ∈ G ∧ Jvm.Cond.instanceMethod Lib.objectInit ∈ G ∧ Jvm.Cond.code Lib.objectInit ⟨#[0xb1]⟩ 1 none ∈ G)
    (hdg : decode M.2.1 (ry_zpc z) = .ok (.invokespecial idx, 3)) (hR : ry_R D cl A s xa M.2.2.1 H0 z r ad H locs ls) (hz : ry_x_init d z = some zs) (K : ∀ z_p ∈ zs, ry_G p l e R s m args below meth c Q D cl A xa M.2.2.1 H0 z.1.length z.2.2.1.length r ad z_p) :
    W p l e R s m args below meth c H locs z.2.2.2.1 z.2.2.2.2.1 Q (F0 m (ry_zpc z) ls ((ry_zst z).map (ry_iv r ad xa))) := by
  unfold ry_x_init at hz
  split at hz
  · rename_i k t hp
    obtain ⟨h1, hz⟩ := ry_if_ok hz
    rw [Bool.and_eq_true, decide_eq_true_eq, decide_eq_true_eq] at h1
    cases hz
    have he := ry_pr_ok hp
    have hst := ry_stsc hR
    rw [he] at hst ⊢
    obtain ⟨hx, hb, hr, hml, hown, hlk, hts, -⟩ := id hF
    rw [hn] at hw
    refine W.objInit hx hb hown (hts _ hw.1) (hts _ hw.2.1) (hts _ hw.2.2) (g := F0 m (ry_zpc z) ls _) rfl (by show ls.size = c.maxLocals; rw [hml]; exact (ry_lvh hR).1) rfl hdg (Nat.le_trans h1.1 hd) ?_ ?_
    · show 2 * 0 + ((t.map (ry_iv r ad xa)).map fun v => v.category).sum + 12 ≤ R.locals
      rw [ry_cats_sum]
      omega
    · exact ry_at (K _ List.mem_cons_self) ry_same.rf ry_sameA.rf (ry_R_nx hR (fun v hv => hst v (List.mem_cons_of_mem _ hv))) rfl rfl rfl rfl
  · cases hz
end RYX
end
section
/-! TABLES, by program (wip/sim/gen.py): what the runs meet of the classes, by class number and entry of its pool; the last number of a row is the place of its word in wsL_law -/
def ry_lku {α : Type} : List (Nat × α) → Nat → Option α
  | [], _ => none
  | q :: l, i => if q.1 = i then some q.2 else ry_lku l i
def ryNm (o : Nat) : String := match o with
  | 0 => RX0
  | 1 => RX1
  | 2 => RX2
  | 3 => RX3
  | 4 => RX4
  | 5 => RX5
  | 6 => RX6
  | 7 => RX7
  | 8 => RX8
  | 9 => RX9
  | 10 => RX10
  | 11 => RX11
  | 12 => RX12
  | 13 => RL
  | _ => ""
def ryNW : List Jvm.Cond := [Cond.methodLinkNest RX1 11 yX5_init "DeadUnderstudies", Cond.methodLinkNest RX7 34 yX6_init "DeadUnderstudies", Cond.methodLinkNest RX10 30 yX5_init "DeadUnderstudies", Cond.methodLinkNest RX10 58 yX2_init "DeadUnderstudies", Cond.methodLinkNest RX10 85 yX6_init "DeadUnderstudies", Cond.methodLinkNest RX11 34 yX7_init "DeadUnderstudies", Cond.methodLinkNest RX11 41 yX6_init "DeadUnderstudies", Cond.methodLinkNest RX11 57 yX8_init "DeadUnderstudies", Cond.methodLinkNest RX11 64 yX3_init "DeadUnderstudies", Cond.methodLinkNest RX11 71 yX4_init "DeadUnderstudies", Cond.methodLinkNest RX11 78 yX1_init "DeadUnderstudies", Cond.methodLinkNest RX11 85 yX0_init "DeadUnderstudies"]
def ryAO : List String := [RX9, RX6, RX10]
def ryFrL0 : List (Nat × ry_Q × Nat) := [(9, (0, 0, 0, false, false), 216), (15, (0, 1, 0, false, false), 217), (18, (0, 2, 3, true, false), 218), (22, (0, 3, 3, true, false), 219), (25, (0, 4, 3, true, false), 220), (29, (0, 5, 3, true, false), 221), (32, (0, 6, 3, true, false), 222), (35, (0, 7, 3, true, false), 223), (38, (0, 8, 0, false, false), 224), (41, (0, 9, 0, false, false), 225)]
def ryFrL1 : List (Nat × ry_Q × Nat) := [(12, (1, 0, 3, false, false), 204), (18, (1, 1, 3, true, false), 205), (22, (1, 2, 3, true, false), 206), (26, (1, 3, 3, true, false), 207), (29, (1, 4, 3, true, false), 208), (32, (1, 5, 0, false, false), 209), (36, (1, 6, 0, false, false), 210), (39, (1, 7, 0, false, false), 211), (42, (1, 8, 0, false, false), 212)]
def ryFrL2 : List (Nat × ry_Q × Nat) := [(9, (2, 0, 0, false, false), 102), (15, (2, 1, 3, true, false), 103), (19, (2, 2, 3, true, false), 104), (22, (2, 3, 3, true, false), 105), (25, (2, 4, 3, true, false), 106)]
def ryFrL3 : List (Nat × ry_Q × Nat) := [(12, (3, 0, 3, true, false), 167), (18, (3, 1, 3, true, false), 168), (21, (3, 2, 1, false, false), 169), (25, (3, 3, 0, false, false), 170), (29, (3, 4, 0, false, false), 171), (32, (3, 5, 1, false, false), 172), (35, (3, 6, 0, false, false), 173), (38, (3, 7, 3, true, false), 174), (42, (3, 8, 0, false, false), 175), (45, (3, 9, 0, false, false), 176), (48, (3, 10, 0, false, false), 177), (51, (3, 11, 0, false, false), 178), (54, (3, 12, 0, false, false), 179), (57, (3, 13, 0, false, false), 180), (60, (3, 14, 0, false, false), 181)]
def ryFrL4 : List (Nat × ry_Q × Nat) := [(9, (4, 0, 0, false, false), 186), (15, (4, 1, 3, true, false), 187), (19, (4, 2, 3, true, false), 188), (22, (4, 3, 3, true, false), 189), (25, (4, 4, 3, true, false), 190), (28, (4, 5, 0, false, false), 191), (31, (4, 6, 0, false, false), 192), (34, (4, 7, 0, false, false), 193), (37, (4, 8, 1, false, false), 194), (41, (4, 9, 0, false, false), 195), (44, (4, 10, 0, false, false), 196), (47, (4, 11, 3, true, false), 197), (50, (4, 12, 3, true, false), 198), (53, (4, 13, 3, true, false), 199)]
def ryFrL5 : List (Nat × ry_Q × Nat) := [(9, (5, 0, 0, false, false), 95), (15, (5, 1, 3, true, false), 96), (19, (5, 2, 3, true, false), 97), (22, (5, 3, 3, true, false), 98)]
def ryFrL6 : List (Nat × ry_Q × Nat) := [(9, (6, 0, 0, false, false), 124), (15, (6, 1, 3, true, false), 125), (19, (6, 2, 3, true, false), 126), (22, (6, 3, 3, true, false), 128), (26, (6, 4, 0, false, false), 129), (29, (6, 5, 3, true, false), 130), (32, (6, 6, 3, true, false), 131), (35, (6, 7, 3, true, false), 132), (38, (6, 8, 3, true, false), 133), (41, (6, 9, 3, true, false), 134), (44, (6, 10, 3, true, false), 135)]
def ryFrL7 : List (Nat × ry_Q × Nat) := [(9, (7, 0, 3, false, false), 139), (15, (7, 1, 0, false, false), 140), (19, (7, 2, 0, false, false), 141), (22, (7, 3, 0, false, false), 142), (25, (7, 4, 0, false, false), 143), (28, (7, 5, 1, false, false), 144), (35, (7, 6, 3, false, false), 146), (39, (7, 7, 0, false, false), 147), (42, (7, 8, 0, false, false), 148), (45, (7, 9, 3, true, false), 149), (48, (7, 10, 0, false, false), 150), (51, (7, 11, 3, true, false), 151), (54, (7, 12, 3, true, false), 152)]
def ryFrL8 : List (Nat × ry_Q × Nat) := [(11, (8, 0, 3, true, false), 156), (15, (8, 1, 3, true, false), 157), (18, (8, 2, 3, true, false), 158), (21, (8, 3, 3, true, false), 159), (24, (8, 4, 2, false, false), 160), (28, (8, 5, 0, false, false), 161), (32, (8, 6, 0, false, false), 162)]
def ryFrL9 : List (Nat × ry_Q × Nat) := [(9, (9, 0, 3, true, false), 111), (15, (9, 1, 3, true, false), 112)]
def ryFrL10 : List (Nat × ry_Q × Nat) := [(9, (10, 0, 0, false, false), 65), (15, (10, 1, 3, true, false), 66), (19, (10, 2, 3, true, false), 67), (24, (10, 3, 3, true, false), 69), (31, (10, 4, 3, true, false), 73), (35, (10, 5, 0, false, false), 74), (38, (10, 6, 3, true, false), 75), (41, (10, 7, 3, true, false), 76), (44, (10, 8, 3, true, false), 77), (47, (10, 9, 3, true, false), 78), (50, (10, 10, 0, false, false), 79), (53, (10, 11, 3, true, false), 80), (59, (10, 12, 3, true, false), 84), (63, (10, 13, 3, true, false), 85), (66, (10, 14, 0, false, false), 86), (69, (10, 15, 0, false, false), 87), (74, (10, 16, 3, true, false), 89), (78, (10, 17, 3, true, false), 90), (81, (10, 18, 3, true, false), 91)]
def ryFrL11 : List (Nat × ry_Q × Nat) := [(12, (11, 0, 3, true, false), 15), (16, (11, 1, 3, true, false), 16), (20, (11, 2, 3, true, false), 18), (24, (11, 3, 3, true, false), 20), (28, (11, 4, 0, false, false), 21), (35, (11, 5, 3, true, false), 25), (42, (11, 6, 3, true, false), 29), (46, (11, 7, 0, false, false), 30), (49, (11, 8, 0, false, false), 31), (52, (11, 9, 3, true, false), 32), (58, (11, 10, 3, true, false), 36), (65, (11, 11, 3, true, false), 40), (72, (11, 12, 3, true, false), 44), (79, (11, 13, 3, true, false), 48), (86, (11, 14, 3, true, false), 52), (90, (11, 15, 3, true, false), 53), (93, (11, 16, 1, false, false), 54), (100, (11, 17, 3, true, false), 58), (104, (11, 18, 3, true, false), 59), (107, (11, 19, 0, false, false), 60)]
def ryFrL12 : List (Nat × ry_Q × Nat) := [(7, (12, 2, 3, true, false), 231), (13, (12, 3, 3, true, false), 232), (16, (12, 4, 3, true, false), 233), (19, (12, 5, 3, true, false), 234), (23, (12, 7, 3, true, false), 235), (26, (12, 13, 0, false, false), 236), (30, (12, 17, 3, true, false), 237), (33, (12, 19, 3, true, false), 238), (36, (12, 20, 3, true, false), 239), (39, (12, 22, 3, true, false), 240), (42, (12, 23, 3, true, false), 241), (61, (12, 26, 3, true, false), 250), (73, (12, 27, 3, true, false), 255), (76, (12, 29, 3, true, false), 256), (79, (12, 30, 3, true, false), 257), (82, (12, 31, 3, true, false), 258), (85, (12, 35, 3, true, false), 259), (88, (12, 36, 3, true, false), 260), (91, (12, 38, 3, true, false), 261), (94, (12, 39, 3, true, false), 262), (97, (12, 40, 3, true, false), 263), (100, (12, 41, 3, true, false), 264), (103, (12, 43, 3, true, false), 265), (106, (12, 44, 3, true, false), 266), (109, (12, 50, 3, true, false), 267), (112, (12, 51, 3, true, false), 268), (115, (12, 52, 3, true, false), 269), (118, (12, 53, 3, true, false), 270), (121, (12, 55, 3, true, false), 271), (124, (12, 56, 3, true, false), 272), (127, (12, 57, 3, true, false), 273), (130, (12, 60, 3, true, false), 274), (133, (12, 61, 3, true, false), 275), (136, (12, 62, 3, true, false), 276), (139, (12, 63, 3, true, false), 277), (142, (12, 64, 3, true, false), 278), (145, (12, 65, 3, true, false), 279), (148, (12, 66, 3, true, false), 280), (151, (12, 67, 3, true, false), 281), (154, (12, 68, 3, true, false), 282), (157, (12, 72, 3, true, false), 283), (160, (12, 73, 3, true, false), 284)]
def ryFrL (o : Nat) : List (Nat × ry_Q × Nat) := match o with
  | 0 => ryFrL0
  | 1 => ryFrL1
  | 2 => ryFrL2
  | 3 => ryFrL3
  | 4 => ryFrL4
  | 5 => ryFrL5
  | 6 => ryFrL6
  | 7 => ryFrL7
  | 8 => ryFrL8
  | 9 => ryFrL9
  | 10 => ryFrL10
  | 11 => ryFrL11
  | 12 => ryFrL12
  | _ => []
def ryCrL1 : List (Nat × (Nat × List Nat) × Nat × Nat × Nat) := [(9, (5, [0, 3, 3, 3]), 203, 71, 72)]
def ryCrL3 : List (Nat × (Nat × List Nat) × Nat × Nat × Nat) := [(9, (9, [3, 3]), 166, 56, 57)]
def ryCrL7 : List (Nat × (Nat × List Nat) × Nat × Nat × Nat) := [(32, (6, [0, 3, 3, 3, 0, 3, 3, 3, 3, 3, 3]), 145, 27, 28)]
def ryCrL10 : List (Nat × (Nat × List Nat) × Nat × Nat × Nat) := [(22, (9, [3, 3]), 68, 56, 57), (28, (5, [0, 3, 3, 3]), 70, 71, 72), (56, (2, [0, 3, 3, 3, 3]), 81, 82, 83), (72, (6, [0, 3, 3, 3, 0, 3, 3, 3, 3, 3, 3]), 88, 27, 28)]
def ryCrL11 : List (Nat × (Nat × List Nat) × Nat × Nat × Nat) := [(9, (10, [0, 3, 3, 3, 3, 0, 3, 3, 3, 3, 0, 3, 3, 3, 0, 0, 3, 3, 3]), 12, 13, 14), (32, (7, [3, 0, 0, 0, 0, 1, 3, 0, 0, 3, 0, 3, 3]), 22, 23, 24), (39, (6, [0, 3, 3, 3, 0, 3, 3, 3, 3, 3, 3]), 26, 27, 28), (55, (8, [3, 3, 3, 3, 2, 0, 0]), 33, 34, 35), (62, (3, [3, 3, 1, 0, 0, 1, 0, 3, 0, 0, 0, 0, 0, 0, 0]), 37, 38, 39), (69, (4, [0, 3, 3, 3, 3, 0, 0, 0, 1, 0, 0, 3, 3, 3]), 41, 42, 43), (76, (1, [3, 3, 3, 3, 3, 0, 0, 0, 0]), 45, 46, 47), (83, (0, [0, 0, 3, 3, 3, 3, 3, 3, 0, 0]), 49, 50, 51), (97, (9, [3, 3]), 55, 56, 57)]
def ryCrL13 : List (Nat × (Nat × List Nat) × Nat × Nat × Nat) := [(7, (11, [3, 3, 3, 3, 0, 3, 3, 0, 0, 3, 3, 3, 3, 3, 3, 3, 1, 3, 3, 0]), 0, 1, 2), (10, (12, [0, 0, 3, 3, 3, 3, 0, 3, 0, 0, 0, 0, 2, 0, 1, 1, 0, 3, 0, 3, 3, 0, 3, 3, 0, 0, 3, 3, 0, 3, 3, 3, 1, 2, 2, 3, 3, 0, 3, 3, 3, 3, 0, 3, 3, 0, 0, 0, 0, 0, 3, 3, 3, 3, 0, 3, 3, 3, 0, 0, 3, 3, 3, 3, 3, 3, 3, 3, 3, 0, 0, 2, 3, 3, 0, 1]), 3, 4, 5)]
def ryCrL (o : Nat) : List (Nat × (Nat × List Nat) × Nat × Nat × Nat) := match o with
  | 1 => ryCrL1
  | 3 => ryCrL3
  | 7 => ryCrL7
  | 10 => ryCrL10
  | 11 => ryCrL11
  | 13 => ryCrL13
  | _ => []
def ryArL10 : List (Nat × Nat × Nat) := [(22, 9, 68), (72, 6, 88)]
def ryArL11 : List (Nat × Nat × Nat) := [(9, 10, 12)]
def ryArL (o : Nat) : List (Nat × Nat × Nat) := match o with
  | 10 => ryArL10
  | 11 => ryArL11
  | _ => []
def ryKcL12 : List (Nat × Nat × Int × Nat) := [(45, 1, 542723566, 242), (47, 1, 441892441, 243), (49, 1, 81486, 244), (51, 1, 136228, 245), (53, 1, 525908, 246), (55, 1, 21643763890, 247), (57, 1, 824370, 248), (59, 1, 441828, 249), (65, 1, 20579973, 251), (67, 1, 3749, 252), (69, 1, 769604, 253), (71, 1, 464660, 254)]
def ryKcL (o : Nat) : List (Nat × Nat × Int × Nat) := match o with
  | 12 => ryKcL12
  | _ => []
def ryCjL1 : List (Nat × ry_J × Nat) := [(11, (5, 0, 5, 0), 0)]
def ryCjL3 : List (Nat × ry_J × Nat) := [(11, (2, 0, 9, 1), 182)]
def ryCjL7 : List (Nat × ry_J × Nat) := [(34, (5, 0, 6, 2), 1)]
def ryCjL9 : List (Nat × ry_J × Nat) := [(18, (0, 0, 9, 13), 113)]
def ryCjL10 : List (Nat × ry_J × Nat) := [(30, (5, 0, 5, 0), 2), (58, (5, 0, 2, 3), 3), (84, (2, 0, 9, 1), 107), (85, (5, 0, 6, 2), 4)]
def ryCjL11 : List (Nat × ry_J × Nat) := [(11, (2, 0, 10, 4), 61), (34, (5, 0, 7, 5), 5), (41, (5, 0, 6, 2), 6), (57, (5, 0, 8, 6), 7), (64, (5, 0, 3, 7), 8), (71, (5, 0, 4, 8), 9), (78, (5, 0, 1, 9), 10), (85, (5, 0, 0, 10), 11), (99, (2, 0, 9, 1), 226)]
def ryCjL13 : List (Nat × ry_J × Nat) := [(9, (2, 0, 11, 12), 6), (12, (2, 0, 12, 11), 227)]
def ryCjL (o : Nat) : List (Nat × ry_J × Nat) := match o with
  | 1 => ryCjL1
  | 3 => ryCjL3
  | 7 => ryCjL7
  | 9 => ryCjL9
  | 10 => ryCjL10
  | 11 => ryCjL11
  | 13 => ryCjL13
  | _ => []
def ryXtL0 : List (Nat × Nat) := [(3, 10)]
def ryXtL1 : List (Nat × Nat) := [(3, 10)]
def ryXtL2 : List (Nat × Nat) := [(3, 10)]
def ryXtL3 : List (Nat × Nat) := [(3, 10)]
def ryXtL4 : List (Nat × Nat) := [(3, 10)]
def ryXtL5 : List (Nat × Nat) := [(3, 10)]
def ryXtL6 : List (Nat × Nat) := [(3, 10)]
def ryXtL7 : List (Nat × Nat) := [(3, 10)]
def ryXtL8 : List (Nat × Nat) := [(3, 10)]
def ryXtL9 : List (Nat × Nat) := [(3, 10), (21, 12)]
def ryXtL10 : List (Nat × Nat) := [(3, 10)]
def ryXtL11 : List (Nat × Nat) := [(3, 10)]
def ryXtL12 : List (Nat × Nat) := [(1, 10)]
def ryXtL (o : Nat) : List (Nat × Nat) := match o with
  | 0 => ryXtL0
  | 1 => ryXtL1
  | 2 => ryXtL2
  | 3 => ryXtL3
  | 4 => ryXtL4
  | 5 => ryXtL5
  | 6 => ryXtL6
  | 7 => ryXtL7
  | 8 => ryXtL8
  | 9 => ryXtL9
  | 10 => ryXtL10
  | 11 => ryXtL11
  | 12 => ryXtL12
  | _ => []
def ryStL (o : Nat) : List (Nat × Nat) := match o with
  | _ => []
def rySlen : List Nat := [0]
/-- methods; places of their words: code, initialized, static, instance, selects -/
def ryM0 : ry_Mt := (5, cX5_init, 1, none, yX5_init, true, 3, 24)
def ryM1 : ry_Mt := (9, cX9_init, 1, none, yX9_init, true, 2, 72)
def ryM2 : ry_Mt := (6, cX6_init, 1, none, yX6_init, true, 9, 936)
def ryM3 : ry_Mt := (2, cX2_init, 1, none, yX2_init, true, 4, 40)
def ryM4 : ry_Mt := (10, cX10_init, 2, none, yX10_init, true, 135, 7185)
def ryM5 : ry_Mt := (7, cX7_init, 1, none, yX7_init, true, 14, 1756)
def ryM6 : ry_Mt := (8, cX8_init, 1, none, yX8_init, true, 4, 144)
def ryM7 : ry_Mt := (3, cX3_init, 1, none, yX3_init, true, 7, 580)
def ryM8 : ry_Mt := (4, cX4_init, 1, none, yX4_init, true, 7, 88)
def ryM9 : ry_Mt := (1, cX1_init, 1, none, yX1_init, true, 8, 116)
def ryM10 : ry_Mt := (0, cX0_init, 1, none, yX0_init, true, 6, 540)
def ryM11 : ry_Mt := (12, cX12_init, 1, none, yX12_init, true, 41, 22483)
def ryM12 : ry_Mt := (11, cX11_init, 1, none, yX11_init, true, 479, 26353)
def ryM13 : ry_Mt := (9, cX9_clear, 1, none, yX9_clear, false, 0, 0)
def ryMos0 : List ry_Mt := [ryM0, ryM1, ryM2, ryM3, ryM4, ryM5, ryM6, ryM7, ryM8, ryM9, ryM10, ryM11, ryM12, ryM13]
def ryMos : List (List ry_Mt) := [ryMos0]
def ry_nth {α : Type} : List α → Nat → Option α
  | [], _ => none
  | a :: l, n => match n with
    | 0 => some a
    | m + 1 => ry_nth l m
def ryMtF (j : Nat) : Option ry_Mt := match ry_nth ryMos (Nat.div j 16) with
  | some l => ry_nth l (Nat.mod j 16)
  | none => none
def ryIm : ry_Im := fun _ _ _ => false
def ryT : ry_Tb := (fun o i => (ry_lku (ryFrL o) i).map (fun q => q.1), fun o i => (ry_lku (ryCrL o) i).map (fun q => q.1), fun o i => (ry_lku (ryArL o) i).map (fun q => q.1), fun o i => (ry_lku (ryKcL o) i).map (fun q => .inr (q.1, (0, q.2.1))), fun o i => (ry_lku (ryCjL o) i).map (fun q => q.1), ryMtF)
def ryXh : ry_Xh := ry_xh (fun o i => ry_lku (ryXtL o) i) (fun o i => ry_lku (ryStL o) i) rySlen ryIm
end
