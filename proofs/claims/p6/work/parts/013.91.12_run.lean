/-! A REFLECTED MACHINE, part 11: calls, and whole runs -/
abbrev ry_End : Type := ry_I × ry_F × List ry_C × Option ry_V
def ry_bind {α β : Type} (g : α → Option (List β)) : List α → Option (List β)
  | [] => some []
  | a :: l => match g a with
    | none => none
    | some x => match ry_bind g l with
      | none => none
      | some y => some (x ++ y)
theorem ry_bind_ok {α β : Type} {g : α → Option (List β)} : ∀ {l : List α} {ys : List β}, ry_bind g l = some ys → ∀ a ∈ l, ∃ xs, g a = some xs ∧ ∀ x ∈ xs, x ∈ ys
  | [], _, _, a, ha => absurd ha List.not_mem_nil
  | b :: l, ys, h, a, ha => by
    rw [ry_bind] at h
    split at h
    · cases h
    · rename_i x hx
      split at h
      · cases h
      · rename_i y hy
        cases h
        rcases List.mem_cons.mp ha with e | e
        · subst e
          exact ⟨x, hx, fun w hw => List.mem_append_left _ hw⟩
        · obtain ⟨xs, h1, h2⟩ := ry_bind_ok hy a e
          exact ⟨xs, h1, fun w hw => List.mem_append_right _ (h2 w hw)⟩
def ry_cats : List ry_V → Nat
  | [] => 0
  | v :: l => (if ry_k2 v then 2 else 1) + ry_cats l
def ry_largs : Nat → List ry_V → List (Nat × ry_V)
  | _, [] => []
  | i, v :: l => (i, v) :: ry_largs (if ry_k2 v then i + 2 else i + 1) l
theorem ry_cats_sum {r : Nat → Int} {ad xa : Nat → Nat} : ∀ (t : List ry_V), ((t.map (ry_iv r ad xa)).map fun v => v.category).sum = ry_cats t
  | [] => rfl
  | v :: t => by
    rw [List.map_cons, List.map_cons, List.sum_cons, ry_cats_sum t, ry_cats]
    cases h : ry_k2 v with
    | true => rw [ry_cat2 h, if_pos rfl]
    | false => rw [ry_cat h, if_neg Bool.false_ne_true]
theorem ry_cats_sl {r : Nat → Int} {ad xa : Nat → Nat} : ∀ (t : List ry_V), (lg_sl (t.map (ry_iv r ad xa))).length = ry_cats t
  | [] => rfl
  | v :: t => by
    have ih := ry_cats_sl (r := r) (ad := ad) (xa := xa) t
    rw [List.map_cons, ry_cats]
    unfold lg_sl at ih ⊢
    rw [List.flatMap_cons, List.length_append, ih]
    cases h : ry_k2 v with
    | true => rw [if_pos (ry_cat2 h), if_pos rfl]; rfl
    | false => rw [if_neg (by rw [ry_cat h]; exact Nat.succ_ne_self 1 ∘ Eq.symm), if_neg Bool.false_ne_true]; rfl
theorem ry_largs_lv {r : Nat → Int} {ad xa : Nat → Nat} : ∀ (t : List ry_V) (i : Nat), ry_lvs r ad xa (ry_largs i t) = lv_args i (t.map (ry_iv r ad xa))
  | [], _ => rfl
  | v :: t, i => by
    rw [List.map_cons, ry_largs, lv_args]
    show (i, ry_iv r ad xa v) :: ry_lvs r ad xa (ry_largs _ t) = _
    rw [ry_largs_lv t]
    cases h : ry_k2 v with
    | true => rw [if_pos (ry_cat2 h), if_pos rfl]
    | false => rw [if_neg Bool.false_ne_true, if_neg (by rw [ry_cat h]; exact Nat.succ_ne_self 1 ∘ Eq.symm)]
theorem ry_largs_mem : ∀ {t : List ry_V} {i : Nat} {q : Nat × ry_V}, q ∈ ry_largs i t → q.2 ∈ t
  | [], _, _, h => absurd h List.not_mem_nil
  | v :: t, i, q, h => by
    rw [ry_largs] at h
    rcases List.mem_cons.mp h with e | e
    · subst e; exact List.mem_cons_self
    · exact List.mem_cons_of_mem _ (ry_largs_mem e)
/-- the uppermost n, the last one first pushed; and the rest -/
def ry_take : Nat → List ry_V → List ry_V → Option (List ry_V × List ry_V)
  | 0, acc, t => some (acc, t)
  | n + 1, acc, t => match t with
    | [] => none
    | v :: t2 => ry_take n (v :: acc) t2
theorem ry_take_ok : ∀ {n : Nat} {acc t as rest : List ry_V}, ry_take n acc t = some (as, rest) → as.length = n + acc.length ∧ acc.reverse ++ t = as.reverse ++ rest
  | 0, acc, t, as, rest, h => by
    rw [ry_take] at h
    cases h
    exact ⟨(Nat.zero_add _).symm, rfl⟩
  | n + 1, acc, [], as, rest, h => absurd (show (none : Option (List ry_V × List ry_V)) = some (as, rest) from h) (fun q => by cases q)
  | n + 1, acc, v :: t2, as, rest, h => by
    have h : ry_take n (v :: acc) t2 = some (as, rest) := h
    obtain ⟨h1, h2⟩ := ry_take_ok h
    refine ⟨by rw [h1, List.length_cons]; omega, ?_⟩
    rw [← h2, List.reverse_cons, List.append_assoc]
    rfl
def ry_cidx (i : Instr) : Option (Nat × Nat) := match i with
  | .invokevirtual idx => some (0, idx)
  | .invokestatic idx => some (1, idx)
  | .invokespecial idx => some (2, idx)
  | _ => none
/-- a receiver of a class -/
def ry_rcv (ht : List ry_C) (ci : Nat) (t : List ry_V) : Option (Nat × List ry_V) := match ry_pr t with
  | some (some k, t2) => match ht[k]? with
    | some (.inl (ci', _)) => ry_if (ci' == ci) (some (k, t2))
    | _ => none
  | _ => none
def ry_z0 (z : ry_Z) (as : List ry_V) : ry_Z := match z with
  | (I0, F1, ht0, _, _, _, _, _) => (I0, F1, ht0, 0, 0, 0, ry_largs 0 as, [])
/-- may a call be: room, frame -/
def ry_may (M M_p : ry_Mt) (z : ry_Z) (as t : List ry_V) : Bool :=
  decide (ry_cats t ≤ 8) && (decide (ry_cats as ≤ M_p.2.2.1) && (decide (M_p.2.2.1 ≤ 21) && (decide (z.2.2.2.1 + M_p.2.2.2.2.2.2.1 ≤ M.2.2.2.2.2.2.1) && decide (z.2.2.2.2.1 + M_p.2.2.2.2.2.2.2 ≤ M.2.2.2.2.2.2.2))))
/-- the callee, what it is given, what stays; for an object's method the receiver is the first -/
def ry_prep (T : ry_Tb) (M : ry_Mt) (i : Instr) (len : Nat) (z : ry_Z) : Option (ry_J × ry_Mt × List ry_V × List ry_V) := match ry_cidx i with
  | none => none
  | some (op, idx) => match T.2.2.2.2.1 M.1 idx with
    | none => none
    | some q => match T.2.2.2.2.2 q.2.2.2, ry_take q.2.1 [] (ry_zst z) with
      | some M_p, some (as, t) => ry_if (len == 3 && (q.1 % 3 == op && decide (q.1 < 6))) (
        if op = 1 then ry_if (ry_may M M_p z as t) (some (q, M_p, as, t))
        else match ry_rcv z.2.2.1 q.2.2.1 t with
          | some (k, t2) => ry_if (ry_may M M_p z (.inl (some k) :: as) t2) (some (q, M_p, .inl (some k) :: as, t2))
          | none => none)
      | _, _ => none
def ry_back (M_p : ry_Mt) (z : ry_Z) (t : List ry_V) (E : ry_End) : ry_Z := match z, E with
  | (_, _, _, c0, s0, pc0, lv0, _), (I0, F1, ht0, v0) => (I0, F1, ht0, c0 + M_p.2.2.2.2.2.2.1, s0 + M_p.2.2.2.2.2.2.2, pc0 + 3, lv0, v0.toList ++ t)
def ry_retk (M : ry_Mt) (i : Instr) (len : Nat) (z : ry_Z) : Option ry_End :=
  ry_if (len == 1 && (decide (z.2.2.2.1 ≤ M.2.2.2.2.2.2.1) && decide (z.2.2.2.2.1 ≤ M.2.2.2.2.2.2.2))) (match i with
    | .ireturn => (match ry_zst z with
      | [.inr (0, e)] => (match M.2.2.2.1 with
        | some .int => some (z.1, z.2.1, z.2.2.1, some (.inr (0, e)))
        | some .boolean => ry_if (ry_in01 z.1 e) (some (z.1, z.2.1, z.2.2.1, some (.inr (0, e))))
        | _ => none)
      | _ => none)
    | .lreturn => (match ry_zst z with
      | [.inr (1, e)] => (match M.2.2.2.1 with
        | some .long => some (z.1, z.2.1, z.2.2.1, some (.inr (1, e)))
        | _ => none)
      | _ => none)
    | .areturn => (match ry_zst z with
      | [.inl o] => (match M.2.2.2.1 with
        | some (.object _) => some (z.1, z.2.1, z.2.2.1, some (.inl o))
        | some (.array _) => some (z.1, z.2.1, z.2.2.1, some (.inl o))
        | _ => none)
      | _ => none)
    | .return_ => (match ry_zst z with
      | [] => (match M.2.2.2.1 with
        | none => some (z.1, z.2.1, z.2.2.1, none)
        | _ => none)
      | _ => none)
    | _ => none)
abbrev ry_Xh : Type := Nat → ry_Mt → Instr → Nat → ry_Z → Option (List ry_Z)
def ry_exec (xh : ry_Xh) (T : ry_Tb) : Nat → Nat → Bool → ry_Mt → ry_Z → Option (List ry_End)
  | 0, _, _, _, _ => none
  | f + 1, d, lw, M, z => match decode M.2.1 (ry_zpc z) with
    | .error _ => none
    | .ok (i, len) => match ry_retk M i len z with
      | some E => some [E]
      | none => match ry_or (xh d M i len z) (ry_step T lw M i len (decode M.2.1 (ry_zpc z + 1)) z) with
        | some zs => ry_bind (ry_exec xh T f d lw M) zs
        | none => match d with
          | 0 => none
          | d' + 1 => match ry_prep T M i len z with
            | none => none
            | some (_, M_p, as, t) => match ry_exec xh T f d' false M_p (ry_z0 z as) with
              | none => none
              | some Es => ry_bind (fun E => ry_exec xh T f (d' + 1) lw M (ry_back M_p z t E)) Es
/-- methods of the tables -/
def ry_mlOK (G : List Jvm.Cond) (nm : Nat → String) (T : ry_Tb) : Prop := ∀ (j : Nat) (M : ry_Mt), T.2.2.2.2.2 j = some M →
  nm M.1 = M.2.2.2.2.1.cls ∧ Jvm.Cond.code M.2.2.2.2.1 M.2.1 M.2.2.1 M.2.2.2.1 ∈ G ∧ plainName M.2.2.2.2.1.cls = true ∧ Jvm.Cond.initialized M.2.2.2.2.1.cls ∈ G ∧ (M.2.2.2.2.1.cls ≠ "java/lang/invoke/MethodHandle" ∧ M.2.2.2.2.1.cls ≠ "java/lang/invoke/VarHandle") ∧ (M.2.2.2.2.2.1 = true → M.2.2.2.2.1.name = "<init>")
def ry_cjOK (G NW : List Jvm.Cond) (cl : List vw_C) (nm : Nat → String) (T : ry_Tb) : Prop := ∀ (o idx : Nat) (q : ry_J) (M : ry_Mt), T.2.2.2.2.1 o idx = some q → T.2.2.2.2.2 q.2.2.2 = some M →
  (parseMethodDescriptor M.2.2.2.2.1.desc).map (fun d => d.parameters.length) = some q.2.1 ∧
  (q.1 < 3 → Jvm.Cond.methodLink (nm o) idx M.2.2.2.2.1 ∈ G) ∧ (3 ≤ q.1 → ∃ host : String, Jvm.Cond.methodLinkNest (nm o) idx M.2.2.2.2.1 host ∈ NW) ∧
  (q.1 % 3 = 1 → Jvm.Cond.static M.2.2.2.2.1 ∈ G) ∧ (q.1 % 3 ≠ 1 → Jvm.Cond.instanceMethod M.2.2.2.2.1 ∈ G ∧ ∃ (F : u_T) (N : Nat), cl[q.2.2.1]? = some (M.2.2.2.2.1.cls, F, N)) ∧ (q.1 % 3 = 0 → Jvm.Cond.selects M.2.2.2.2.1.cls M.2.2.2.2.1 M.2.2.2.2.1 ∈ G) ∧ (q.1 % 3 = 2 → M.2.2.2.2.1.name = "<init>" ∧ M.2.2.2.1 = none)
/-- the world without its history -/
def ry_W0 (D : va_G) (cl : List vw_C) (A : Nat → Prop) (s : State) (xa : Nat → Nat) (N : Nat) (ht : List ry_C) (r : Nat → Int) (ad : Nat → Nat) (H : Heap) : Prop :=
  ∃ (ws : va_W) (tys : List (ClassId × FieldType)), va_K D cl tys s ∧ va_P D cl ws H ∧ va_D A ws ∧ ws.length = ht.length ∧
    ∀ (k : Nat) (x : ry_C), ht[k]? = some x → ry_csc N ht.length x ∧ ∃ e : va_E, ws[k]? = some (ad k, e) ∧ ry_cell cl tys r ad xa x e
theorem ry_W.to0 {D : va_G} {cl : List vw_C} {A : Nat → Prop} {s : State} {xa : Nat → Nat} {N : Nat} {ht : List ry_C} {r : Nat → Int} {ad : Nat → Nat} {H0 H : Heap} {locs : List Loc} (h : ry_W D cl A s xa N ht r ad H0 H locs) : ry_W0 D cl A s xa N ht r ad H ∧ va_S A H0 H locs := by
  obtain ⟨ws, tys, hK, hP, hD, hS, hl, hc⟩ := h
  exact ⟨⟨ws, tys, hK, hP, hD, hl, hc⟩, hS⟩
theorem ry_W0.to {D : va_G} {cl : List vw_C} {A : Nat → Prop} {s : State} {xa : Nat → Nat} {N : Nat} {ht : List ry_C} {r : Nat → Int} {ad : Nat → Nat} {H0 H : Heap} {locs : List Loc} (h : ry_W0 D cl A s xa N ht r ad H) (hS : va_S A H0 H locs) : ry_W D cl A s xa N ht r ad H0 H locs := by
  obtain ⟨ws, tys, hK, hP, hD, hl, hc⟩ := h
  exact ⟨ws, tys, hK, hP, hD, hS, hl, hc⟩
theorem ry_W0.moved {D : va_G} {cl : List vw_C} {A : Nat → Prop} {s U : State} {xa : Nat → Nat} {N : Nat} {ht : List ry_C} {r : Nat → Int} {ad : Nat → Nat} {H : Heap} (h : ry_W0 D cl A s xa N ht r ad H) (hvm : s.vm.Alike U.vm) : ry_W0 D cl A U xa N ht r ad H := by
  obtain ⟨ws, tys, hK, hP, hD, hl, hc⟩ := h
  exact ⟨ws, tys, va_K.moved hvm hK, hP, hD, hl, hc⟩
/-- what holds at an end -/
def ry_RE (D : va_G) (cl : List vw_C) (A : Nat → Prop) (s : State) (xa : Nat → Nat) (E : ry_End) (r : Nat → Int) (ad : Nat → Nat) (H : Heap) : Prop :=
  ry_sat E.1 r ∧ ry_facts E.2.1 r ∧ ry_fsc E.1.length E.2.1 ∧ ry_W0 D cl A s xa E.1.length E.2.2.1 r ad H ∧ ∀ v, E.2.2.2 = some v → ry_sc E.1.length E.2.2.1.length v
/-- a return instruction that fits an end -/
def ry_rti (M : ry_Mt) (pc : Nat) (r : Nat → Int) (ad xa : Nat → Nat) (v : Option ry_V) : Prop := match v with
  | none => decode M.2.1 pc = .ok (.return_, 1) ∧ M.2.2.2.1 = none
  | some (.inr (0, e)) => decode M.2.1 pc = .ok (.ireturn, 1) ∧ ∃ ty, M.2.2.2.1 = some ty ∧ narrow ty (ry_iv r ad xa (.inr (0, e))) = ry_iv r ad xa (.inr (0, e))
  | some (.inr (1, _)) => decode M.2.1 pc = .ok (.lreturn, 1) ∧ M.2.2.2.1 = some .long
  | some (.inr (_ + 2, _)) => False
  | some (.inl _) => decode M.2.1 pc = .ok (.areturn, 1) ∧ ∃ ty, M.2.2.2.1 = some ty ∧ ((∃ n, ty = .object n) ∨ ∃ t, ty = .array t)
theorem ry_retk_ok {M : ry_Mt} {i : Instr} {len : Nat} {z : ry_Z} {E : ry_End} {r : Nat → Int} {ad xa : Nat → Nat} (hs : ry_sat z.1 r) (h : ry_retk M i len z = some E) (hdg : decode M.2.1 (ry_zpc z) = .ok (i, len)) : E.1 = z.1 ∧ E.2.1 = z.2.1 ∧ E.2.2.1 = z.2.2.1 ∧ ry_zst z = E.2.2.2.toList ∧ z.2.2.2.1 ≤ M.2.2.2.2.2.2.1 ∧ z.2.2.2.2.1 ≤ M.2.2.2.2.2.2.2 ∧ ry_rti M (ry_zpc z) r ad xa E.2.2.2 := by
  unfold ry_retk at h
  obtain ⟨h1, h2⟩ := ry_if_ok h
  rw [Bool.and_eq_true, Bool.and_eq_true, beq_iff_eq, decide_eq_true_eq, decide_eq_true_eq] at h1
  obtain ⟨hl, hc, hsl⟩ := h1
  subst hl
  split at h2
  · split at h2
    · rename_i e hst
      split at h2
      · rename_i hret
        cases h2
        exact ⟨rfl, rfl, rfl, hst, hc, hsl, hdg, .int, hret, rfl⟩
      · rename_i hret
        obtain ⟨h01, h2⟩ := ry_if_ok h2
        cases h2
        refine ⟨rfl, rfl, rfl, hst, hc, hsl, hdg, .boolean, hret, ?_⟩
        exact (ry_fit_ok (tc := 1) (ty := .boolean) (v := .inr (0, e)) hs h01 rfl).1
      · cases h2
    · cases h2
  · split at h2
    · rename_i e hst
      split at h2
      · rename_i hret
        cases h2
        exact ⟨rfl, rfl, rfl, hst, hc, hsl, hdg, hret⟩
      · cases h2
    · cases h2
  · split at h2
    · rename_i o hst
      split at h2
      · rename_i n hret
        cases h2
        exact ⟨rfl, rfl, rfl, hst, hc, hsl, hdg, _, hret, Or.inl ⟨n, rfl⟩⟩
      · rename_i n hret
        cases h2
        exact ⟨rfl, rfl, rfl, hst, hc, hsl, hdg, _, hret, Or.inr ⟨n, rfl⟩⟩
      · cases h2
    · cases h2
  · split at h2
    · rename_i hst
      split at h2
      · rename_i hret
        cases h2
        exact ⟨rfl, rfl, rfl, hst, hc, hsl, hdg, hret⟩
      · cases h2
    · cases h2
  · cases h2
section RYC
variable {p : Program} {l : Launch} {e : Env} {R : Room} {s : State} {m : MethodId} {args : Array Value} {below : List Frame} {meth : Method} {c : Code} {H : Heap} {locs : List Loc} {cells slots : Nat} {Q : State → Prop}
variable {pc : Nat} {ls : Array Slot} {rest st0 : List Value} {A : Nat → Prop} {H0 : Heap} {mc ms : Nat}
theorem ry_call {Qa : State → Outcome → State → Prop} (hr : va_Run p l e R s m args below meth c H locs cells slots mc ms (F0 m pc ls st0) rest Qa A) (hS : va_S A H0 H locs) (hQ : ∀ st oc t, Qa st oc t → va_F A st t)
    (kk : ∀ (v : Option Value) (st t : State) (H1 : Heap) (locs1 : List Loc), t.heap = H1 → st.heap = H → s.vm.Alike t.vm → Qa st (.returned v) t → va_S A H0 H1 locs1 → W p l e R s m args below meth c H1 locs1 (cells + mc) (slots + ms) Q (F0 m (pc + 3) ls (v.toList ++ rest))) : W p l e R s m args below meth c H locs cells slots Q (F0 m pc ls st0) := by
  intro T hT X
  obtain ⟨v, st₀, t, T', L, h0, X', hL, e1, e2, hq, st⟩ := hr T hT X
  obtain ⟨hz, hk⟩ := hQ _ _ _ hq
  rw [h0] at hz hk
  obtain ⟨t2, a1, b1⟩ := kk v st₀ t T'.heap (locs ++ L) e1.symm h0 (by rw [← e2]; exact X'.warmed.alike) hq
    ⟨Nat.le_trans hS.1 (by rw [e1]; exact hz), fun q h1 h2 => by rw [e1, hk q (Nat.lt_of_lt_of_le h1 hS.1) h2]; exact hS.2.1 q h1 h2, fun q hq => by
      rcases List.mem_append.mp hq with h | h
      · exact hS.2.2 q h
      · exact hL q h⟩ T' rfl X'
  exact ⟨t2, st t2 a1, b1⟩
end RYC

section RYV
variable {G NW : List Jvm.Cond} {AO : List String} {cl : List vw_C} {T : ry_Tb} {nm : Nat → String} {xh : ry_Xh}
/-- what a method is given -/
def ry_Pre (NW : List Jvm.Cond) (AO : List String) (PX : State → Prop) (D : va_G) (cl : List vw_C) (A : Nat → Prop) (xa : Nat → Nat) (z : ry_Z) (r : Nat → Int) (ad : Nat → Nat) (U : State) : Prop :=
  (∀ w ∈ NW, va_Nw w U) ∧ (∀ C ∈ AO, va_AO C U) ∧ PX U ∧ ry_W0 D cl A U xa z.1.length z.2.2.1 r ad U.heap ∧ ∀ q, U.heap.size ≤ q → A q
/-- what a method answers -/
def ry_Post (D : va_G) (cl : List vw_C) (A : Nat → Prop) (xa : Nat → Nat) (N M : Nat) (r : Nat → Int) (ad : Nat → Nat) (Es : List ry_End) : Array Value → State → Outcome → State → Prop := fun _ st oc t =>
  (∃ E ∈ Es, ∃ (r_p : Nat → Int) (ad' : Nat → Nat), N ≤ E.1.length ∧ M ≤ E.2.2.1.length ∧ ry_same N r r_p ∧ ry_sameA M ad ad' ∧ ry_RE D cl A t xa E r_p ad' t.heap ∧ oc = .returned (E.2.2.2.map (ry_iv r_p ad' xa))) ∧ va_F A st t
/-- a run's ends lead to what is wanted -/
def ry_Goal (f d : Nat) (lw : Bool) (xh : ry_Xh) (T : ry_Tb) (G NW : List Jvm.Cond) (AO : List String) (cl : List vw_C) (nm : Nat → String) (A : Nat → Prop) (xa : Nat → Nat) (PX : State → Prop) (l : Launch) (D : va_G) : Prop :=
  ∀ (M : ry_Mt) (z : ry_Z) (Es : List ry_End), ry_exec xh T f d lw M z = some Es → nm M.1 = M.2.2.2.2.1.cls →
  ∀ {p : Program} {e : Env} {R : Room} {s : State} {m : MethodId} {args : Array Value} {below : List Frame} {meth : Method} {c : Code} {Q : State → Prop} {H0 H : Heap} {locs : List Loc} {ls : Array Slot} {r : Nat → Int} {ad : Nat → Nat},
    ry_Fr G NW AO PX p s m args meth c M → (∀ q, H0.size ≤ q → A q) → H0 = s.heap → M.2.2.2.2.2.2.1 ≤ R.cells → M.2.2.2.2.2.2.2 ≤ R.slots → d ≤ R.frames → d * 40 ≤ R.locals → ry_Scr lw A s xa H0 r → ry_R D cl A s xa M.2.2.1 H0 z r ad H locs ls →
    (∀ E ∈ Es, ∀ (r_p : Nat → Int) (ad' : Nat → Nat) (H' : Heap) (locs' : List Loc) (ls' : Array Slot) (pc' k' n' : Nat), z.1.length ≤ E.1.length → z.2.2.1.length ≤ E.2.2.1.length → ry_same z.1.length r r_p → ry_sameA z.2.2.1.length ad ad' → ry_RE D cl A s xa E r_p ad' H' → va_S A H0 H' locs' → k' ≤ M.2.2.2.2.2.2.1 → n' ≤ M.2.2.2.2.2.2.2 → ry_rti M pc' r_p ad' xa E.2.2.2 →
      W p l e R s m args below meth c H' locs' k' n' Q (F0 m pc' ls' (E.2.2.2.toList.map (ry_iv r_p ad' xa)))) →
    W p l e R s m args below meth c H locs z.2.2.2.1 z.2.2.2.2.1 Q (F0 m (ry_zpc z) ls ((ry_zst z).map (ry_iv r ad xa)))
theorem ry_toList_map {r : Nat → Int} {ad xa : Nat → Nat} (v : Option ry_V) : (v.map (ry_iv r ad xa)).toList = v.toList.map (ry_iv r ad xa) := by
  cases v <;> rfl
set_option maxHeartbeats 1000000 in
/-- a method meets what its run says -/
theorem ry_met {A : Nat → Prop} {xa : Nat → Nat} {PX : State → Prop} {l : Launch} {D : va_G} {f d j : Nat} (hGG : ∀ w ∈ G, goodWord w = true) (tm : ry_mlOK G nm T) (ih : ry_Goal f d false xh T G NW AO cl nm A xa PX l D) {M_p : ry_Mt} (hj : T.2.2.2.2.2 j = some M_p) {z : ry_Z} {as : List ry_V} {Es : List ry_End} {r : Nat → Int} {ad : Nat → Nat}
    (hex : ry_exec xh T f d false M_p (ry_z0 z as) = some Es) (hsat : ry_sat z.1 r) (hfa : ry_facts z.2.1 r) (hfs : ry_fsc z.1.length z.2.1) (has : ∀ v ∈ as, ry_sc z.1.length z.2.2.1.length v) (hcats : ry_cats as ≤ M_p.2.2.1) :
    Met l M_p.2.2.2.2.1 (Jvm.Cond.code M_p.2.2.2.2.1 M_p.2.1 M_p.2.2.1 M_p.2.2.2.1 :: G) { frames := d, cells := M_p.2.2.2.2.2.2.1, slots := M_p.2.2.2.2.2.2.2, locals := d * 40 } (va_Pc (as.map (ry_iv r ad xa)) (ry_Pre NW AO PX D cl A xa z r ad)) (ry_Post D cl A xa z.1.length z.2.2.1.length r ad Es) M_p.2.2.2.2.2.2.1 M_p.2.2.2.2.2.2.2 A := by
  obtain ⟨m1, m2, m3, m4, m5, m6⟩ := tm j M_p hj
  refine Met.ofW (cc := M_p.2.1) (maxL := M_p.2.2.1) (ret := M_p.2.2.2.1) m3 rfl ?_
  intro p e s m args below meth c s₁ B hml hv
  obtain ⟨hargs, hnw, hao, hpx, hW0, hA⟩ := hv
  subst hargs
  have hx := B.exec
  have hb := B.bytes
  have hr := B.returns
  have hts0 := atoms_spec (ws := Jvm.Cond.code M_p.2.2.2.2.1 M_p.2.1 M_p.2.2.1 M_p.2.2.2.1 :: G) B.pre
  have hts : ∀ w ∈ G, w.before (as.map (ry_iv r ad xa)).toArray s = true := fun w hw => hts0 w (List.mem_cons_of_mem _ hw)
  have hown : s.vm.findClass M_p.2.2.2.2.1.cls = some m.cls := findClass_of_methodNamed B.named
  have hlocks := B.notSynchronized
  have hname : meth.name = M_p.2.2.2.2.1.name := (name_of_methodNamed B.named B.method).1
  have hF : ry_Fr G NW AO PX p s m (as.map (ry_iv r ad xa)).toArray meth c M_p := ⟨hx, hb, hr, hml, hown, hlocks, hts, hnw, hao, hpx, fun hi => hname.trans (m6 hi)⟩
  have hl := lv_entry (as.map (ry_iv r ad xa)) (n := M_p.2.2.1) (by rw [ry_cats_sl]; exact hcats)
  rw [lg_entry_eq]
  generalize (lg_sl (as.map (ry_iv r ad xa)) ++ List.replicate (M_p.2.2.1 - (lg_sl (as.map (ry_iv r ad xa))).length) Slot.unset).toArray = ls at hl ⊢
  rw [← ry_largs_lv] at hl
  have hR0 : ry_R D cl A s xa M_p.2.2.1 s.heap (ry_z0 z as) r ad s.heap [] ls :=
    ⟨hsat, hfa, hfs, hW0.to va_S.rf, hl, fun q hq => has _ (ry_largs_mem hq), fun v hv => absurd hv List.not_mem_nil⟩
  refine ih M_p (ry_z0 z as) Es hex m1 hF hA rfl (Nat.le_refl _) (Nat.le_refl _) (Nat.le_refl _) (Nat.le_refl _) (fun h => absurd h Bool.false_ne_true) hR0 ?_
  intro E hE r_p ad' H' locs' ls' pc' k' n' hN hM hsr hsa hRE hS hk hn hrt
  have hpost : ∀ t : State, t.heap = H' → s.WarmedH t.vm → ry_Post D cl A xa z.1.length z.2.2.1.length r ad Es (as.map (ry_iv r ad xa)).toArray s (.returned (E.2.2.2.map (ry_iv r_p ad' xa))) t := by
    intro t ht hW
    refine ⟨⟨E, hE, r_p, ad', hN, hM, hsr, hsa, ⟨hRE.1, hRE.2.1, hRE.2.2.1, ?_, hRE.2.2.2.2⟩, rfl⟩, hS.F ht⟩
    rw [ht]
    exact hRE.2.2.2.1.moved hW.alike
  refine W.widen hk hn ?_
  obtain ⟨eI, eF, eh, v⟩ := E
  match v, hrt, hpost with
  | none, hrt, hpost => exact W.vret hx hb (hr.trans hrt.2) hpost hS.2.2 hrt.1
  | some (.inl none), hrt, hpost =>
    obtain ⟨h1, ty, h2, h3⟩ := hrt
    exact W.aret hx hb (hr.trans h2) h3 (Or.inl rfl) hpost hS.2.2 h1
  | some (.inl (some k)), hrt, hpost =>
    obtain ⟨h1, ty, h2, h3⟩ := hrt
    exact W.aret hx hb (hr.trans h2) h3 (Or.inr ⟨_, rfl⟩) hpost hS.2.2 h1
  | some (.inr (0, q)), hrt, hpost =>
    obtain ⟨h1, ty, h2, h3⟩ := hrt
    exact W.zret hx hb (hr.trans h2) h3 hpost hS.2.2 h1
  | some (.inr (1, q)), hrt, hpost => exact W.lret hx hb (hr.trans hrt.2) hpost hS.2.2 hrt.1
  | some (.inr (_ + 2, q)), hrt, hpost => exact hrt.elim
end RYV
