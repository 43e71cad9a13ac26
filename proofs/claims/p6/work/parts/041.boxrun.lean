/-! THE BOX MACHINE: calls, and whole runs -/
def rx_in01 (I : rx_I) (e : rx_E) : Bool := match rx_bi I e with
  | some (lo, hi) => decide (0 ≤ lo) && decide (hi ≤ 1)
  | none => false
theorem rx_in01_ok {I : rx_I} {e : rx_E} {r : Nat → Int} (h : rx_sat I r) (hf : rx_in01 I e = true) : Int32.ofInt (rx_ev r e) = 0 ∨ Int32.ofInt (rx_ev r e) = 1 := by
  unfold rx_in01 at hf
  split at hf
  · rename_i lo hi he
    obtain ⟨h1, h2, -, -⟩ := rx_bi_ok h he
    rw [Bool.and_eq_true, decide_eq_true_eq, decide_eq_true_eq] at hf
    rcases (show rx_ev r e = 0 ∨ rx_ev r e = 1 by omega) with q | q
    · exact Or.inl (by rw [q]; rfl)
    · exact Or.inr (by rw [q]; rfl)
  · exact absurd hf Bool.false_ne_true
abbrev rx_End : Type := rx_I × rx_F × List rx_C × Option rx_V
def rx_bind {α β : Type} (g : α → Option (List β)) : List α → Option (List β)
  | [] => some []
  | a :: l => match g a with
    | none => none
    | some x => match rx_bind g l with
      | none => none
      | some y => some (x ++ y)
theorem rx_bind_ok {α β : Type} {g : α → Option (List β)} : ∀ {l : List α} {ys : List β}, rx_bind g l = some ys → ∀ a ∈ l, ∃ xs, g a = some xs ∧ ∀ x ∈ xs, x ∈ ys
  | [], _, _, a, ha => absurd ha List.not_mem_nil
  | b :: l, ys, h, a, ha => by
    rw [rx_bind] at h
    split at h
    · cases h
    · rename_i x hx
      split at h
      · cases h
      · rename_i y hy
        cases h
        rcases List.mem_cons.mp ha with e | e
        · subst e
          exact ⟨x, hx, fun w hw => List.mem_append_left _ hw⟩
        · obtain ⟨xs, h1, h2⟩ := rx_bind_ok hy a e
          exact ⟨xs, h1, fun w hw => List.mem_append_right _ (h2 w hw)⟩
def rx_cats : List rx_V → Nat
  | [] => 0
  | v :: l => (if rx_k2 v then 2 else 1) + rx_cats l
def rx_largs : Nat → List rx_V → List (Nat × rx_V)
  | _, [] => []
  | i, v :: l => (i, v) :: rx_largs (if rx_k2 v then i + 2 else i + 1) l
theorem rx_cats_sum {r : Nat → Int} {ad xa : Nat → Nat} : ∀ (t : List rx_V), ((t.map (rx_iv r ad xa)).map fun v => v.category).sum = rx_cats t
  | [] => rfl
  | v :: t => by
    rw [List.map_cons, List.map_cons, List.sum_cons, rx_cats_sum t, rx_cats]
    cases h : rx_k2 v with
    | true => rw [rx_cat2 h, if_pos rfl]
    | false => rw [rx_cat h, if_neg Bool.false_ne_true]
theorem rx_cats_sl {r : Nat → Int} {ad xa : Nat → Nat} : ∀ (t : List rx_V), (lg_sl (t.map (rx_iv r ad xa))).length = rx_cats t
  | [] => rfl
  | v :: t => by
    have ih := rx_cats_sl (r := r) (ad := ad) (xa := xa) t
    rw [List.map_cons, rx_cats]
    unfold lg_sl at ih ⊢
    rw [List.flatMap_cons, List.length_append, ih]
    cases h : rx_k2 v with
    | true => rw [if_pos (rx_cat2 h), if_pos rfl]; rfl
    | false => rw [if_neg (by rw [rx_cat h]; exact Nat.succ_ne_self 1 ∘ Eq.symm), if_neg Bool.false_ne_true]; rfl
theorem rx_largs_lv {r : Nat → Int} {ad xa : Nat → Nat} : ∀ (t : List rx_V) (i : Nat), rx_lvs r ad xa (rx_largs i t) = lv_args i (t.map (rx_iv r ad xa))
  | [], _ => rfl
  | v :: t, i => by
    rw [List.map_cons, rx_largs, lv_args]
    show (i, rx_iv r ad xa v) :: rx_lvs r ad xa (rx_largs _ t) = _
    rw [rx_largs_lv t]
    cases h : rx_k2 v with
    | true => rw [if_pos (rx_cat2 h), if_pos rfl]
    | false => rw [if_neg Bool.false_ne_true, if_neg (by rw [rx_cat h]; exact Nat.succ_ne_self 1 ∘ Eq.symm)]
theorem rx_largs_mem : ∀ {t : List rx_V} {i : Nat} {q : Nat × rx_V}, q ∈ rx_largs i t → q.2 ∈ t
  | [], _, _, h => absurd h List.not_mem_nil
  | v :: t, i, q, h => by
    rw [rx_largs] at h
    rcases List.mem_cons.mp h with e | e
    · subst e; exact List.mem_cons_self
    · exact List.mem_cons_of_mem _ (rx_largs_mem e)
/-- the uppermost n, the last one first pushed; and the rest -/
def rx_take : Nat → List rx_V → List rx_V → Option (List rx_V × List rx_V)
  | 0, acc, t => some (acc, t)
  | n + 1, acc, t => match t with
    | [] => none
    | v :: t2 => rx_take n (v :: acc) t2
theorem rx_take_ok : ∀ {n : Nat} {acc t as rest : List rx_V}, rx_take n acc t = some (as, rest) → as.length = n + acc.length ∧ acc.reverse ++ t = as.reverse ++ rest
  | 0, acc, t, as, rest, h => by
    rw [rx_take] at h
    cases h
    exact ⟨(Nat.zero_add _).symm, rfl⟩
  | n + 1, acc, [], as, rest, h => absurd (show (none : Option (List rx_V × List rx_V)) = some (as, rest) from h) (fun q => by cases q)
  | n + 1, acc, v :: t2, as, rest, h => by
    have h : rx_take n (v :: acc) t2 = some (as, rest) := h
    obtain ⟨h1, h2⟩ := rx_take_ok h
    refine ⟨by rw [h1, List.length_cons]; omega, ?_⟩
    rw [← h2, List.reverse_cons, List.append_assoc]
    rfl
def rx_cidx (i : Instr) : Option (Nat × Nat) := match i with
  | .invokevirtual idx => some (0, idx)
  | .invokestatic idx => some (1, idx)
  | .invokespecial idx => some (2, idx)
  | _ => none
/-- a receiver of a class -/
def rx_rcv (B : bx_B) (ht : List rx_C) (ci : Nat) (t : List rx_V) : Option (rx_E × List rx_V) := match bx_pp t with
  | some (e, t2) => match bx_dm ht e.1 with
    | some d => match B.1.1 d e.2 with
      | some (.inl (ci', _)) => rx_if (ci' == ci) (some (e, t2))
      | _ => none
    | none => none
  | none => none
def rx_z0 (z : rx_Z) (as : List rx_V) : rx_Z := match z with
  | (I0, F1, ht0, _, _, _, _, _) => (I0, F1, ht0, 0, 0, 0, rx_largs 0 as, [])
/-- may a call be: room, frame -/
def rx_may (M M_p : rx_Mt) (z : rx_Z) (as t : List rx_V) : Bool :=
  decide (rx_cats t ≤ 8) && (decide (rx_cats as ≤ M_p.2.2.1) && (decide (M_p.2.2.1 ≤ 21) && (decide (z.2.2.2.1 + M_p.2.2.2.2.2.2.1 ≤ M.2.2.2.2.2.2.1) && decide (z.2.2.2.2.1 + M_p.2.2.2.2.2.2.2 ≤ M.2.2.2.2.2.2.2))))
/-- the callee, what it is given, what stays; for an object's method the receiver is the first -/
def rx_prep (B : bx_B) (T : rx_Tb) (M : rx_Mt) (i : Instr) (len : Nat) (z : rx_Z) : Option (rx_J × rx_Mt × List rx_V × List rx_V) := match rx_cidx i with
  | none => none
  | some (op, idx) => match T.2.2.2.2.1 M.1 idx with
    | none => none
    | some q => match T.2.2.2.2.2 q.2.2.2, rx_take q.2.1 [] (rx_zst z) with
      | some M_p, some (as, t) => rx_if (len == 3 && (q.1 % 3 == op && decide (q.1 < 6))) (
        if op = 1 then rx_if (rx_may M M_p z as t) (some (q, M_p, as, t))
        else match rx_rcv B z.2.2.1 q.2.2.1 t with
          | some (k, t2) => rx_if (rx_may M M_p z (.inr (3, k) :: as) t2) (some (q, M_p, .inr (3, k) :: as, t2))
          | none => none)
      | _, _ => none
def rx_back (M_p : rx_Mt) (z : rx_Z) (t : List rx_V) (E : rx_End) : rx_Z := match z, E with
  | (_, _, _, c0, s0, pc0, lv0, _), (I0, F1, ht0, v0) => (I0, F1, ht0, c0 + M_p.2.2.2.2.2.2.1, s0 + M_p.2.2.2.2.2.2.2, pc0 + 3, lv0, v0.toList ++ t)
def rx_retk (M : rx_Mt) (i : Instr) (len : Nat) (z : rx_Z) : Option rx_End :=
  rx_if (len == 1 && (decide (z.2.2.2.1 ≤ M.2.2.2.2.2.2.1) && decide (z.2.2.2.2.1 ≤ M.2.2.2.2.2.2.2))) (match i with
    | .ireturn => (match rx_zst z with
      | [.inr (0, e)] => (match M.2.2.2.1 with
        | some .int => some (z.1, z.2.1, z.2.2.1, some (.inr (0, e)))
        | some .boolean => rx_if (rx_in01 z.1 e) (some (z.1, z.2.1, z.2.2.1, some (.inr (0, e))))
        | _ => none)
      | _ => none)
    | .lreturn => (match rx_zst z with
      | [.inr (1, e)] => (match M.2.2.2.1 with
        | some .long => some (z.1, z.2.1, z.2.2.1, some (.inr (1, e)))
        | _ => none)
      | _ => none)
    | .areturn => (match rx_zst z with
      | [.inr (3, e)] => (match M.2.2.2.1 with
        | some (.object _) => some (z.1, z.2.1, z.2.2.1, some (.inr (3, e)))
        | some (.array _) => some (z.1, z.2.1, z.2.2.1, some (.inr (3, e)))
        | _ => none)
      | _ => none)
    | .return_ => (match rx_zst z with
      | [] => (match M.2.2.2.1 with
        | none => some (z.1, z.2.1, z.2.2.1, none)
        | _ => none)
      | _ => none)
    | _ => none)
abbrev rx_Xh : Type := Nat → rx_Mt → Instr → Nat → rx_Z → Option (List rx_Z)
def rx_exec (B : bx_B) (xh : rx_Xh) (T : rx_Tb) : (rx_Z → Bool) → Nat → Nat → rx_Mt → rx_Z → Option (List rx_End)
  | _, 0, _, _, _ => none
  | cut, f + 1, d, M, z => match decode M.2.1 (rx_zpc z) with
    | .error _ => none
    | .ok (i, len) => match rx_retk M i len z with
      | some E => some [E]
      | none => match rx_or (xh d M i len z) (rx_step B T M i len (decode M.2.1 (rx_zpc z + 1)) z) with
        | some zs => rx_bind (fun z_p => if cut z_p = true then some [] else rx_exec B xh T cut f d M z_p) zs
        | none => match d with
          | 0 => none
          | d' + 1 => match rx_prep B T M i len z with
            | none => none
            | some (_, M_p, as, t) => match rx_exec B xh T (fun _ => false) f d' M_p (rx_z0 z as) with
              | none => none
              | some Es => rx_bind (fun E => rx_exec B xh T cut f (d' + 1) M (rx_back M_p z t E)) Es
/-- methods of the tables -/
def rx_mlOK (G : List Jvm.Cond) (nm : Nat → String) (T : rx_Tb) : Prop := ∀ (j : Nat) (M : rx_Mt), T.2.2.2.2.2 j = some M →
  nm M.1 = M.2.2.2.2.1.cls ∧ Jvm.Cond.code M.2.2.2.2.1 M.2.1 M.2.2.1 M.2.2.2.1 ∈ G ∧ plainName M.2.2.2.2.1.cls = true ∧ Jvm.Cond.initialized M.2.2.2.2.1.cls ∈ G ∧ (M.2.2.2.2.1.cls ≠ "java/lang/invoke/MethodHandle" ∧ M.2.2.2.2.1.cls ≠ "java/lang/invoke/VarHandle") ∧ (M.2.2.2.2.2.1 = true → M.2.2.2.2.1.name = "<init>")
def rx_cjOK (G NW : List Jvm.Cond) (cl : List vw_C) (nm : Nat → String) (T : rx_Tb) : Prop := ∀ (o idx : Nat) (q : rx_J) (M : rx_Mt), T.2.2.2.2.1 o idx = some q → T.2.2.2.2.2 q.2.2.2 = some M →
  (parseMethodDescriptor M.2.2.2.2.1.desc).map (fun d => d.parameters.length) = some q.2.1 ∧
  (q.1 < 3 → Jvm.Cond.methodLink (nm o) idx M.2.2.2.2.1 ∈ G) ∧ (3 ≤ q.1 → ∃ host : String, Jvm.Cond.methodLinkNest (nm o) idx M.2.2.2.2.1 host ∈ NW) ∧
  (q.1 % 3 = 1 → Jvm.Cond.static M.2.2.2.2.1 ∈ G) ∧ (q.1 % 3 ≠ 1 → Jvm.Cond.instanceMethod M.2.2.2.2.1 ∈ G ∧ ∃ (F : u_T) (N : Nat), cl[q.2.2.1]? = some (M.2.2.2.2.1.cls, F, N)) ∧ (q.1 % 3 = 0 → Jvm.Cond.selects M.2.2.2.2.1.cls M.2.2.2.2.1 M.2.2.2.2.1 ∈ G) ∧ (q.1 % 3 = 2 → M.2.2.2.2.1.name = "<init>" ∧ M.2.2.2.1 = none)
/-- the world without its history -/
def rx_W0 (D : bx_D) (cl : List vw_C) (A : Nat → Prop) (s : State) (xa : Nat → Nat) (N : Nat) (ht : List rx_C) (r : Nat → Int) (ad : Nat → Nat) (H : Heap) : Prop :=
  ∃ S : Nat → Int → Int, bx_W0 D cl A s ad S H ∧ (bx_same D.2.1 D.2.2.2 D.2.2.1 S ∧ (bx_lg D.2.2.2 = true → bx_chain D.2.1 N r D.2.2.1 ht S)) ∧ bx_kns D ad xa S N ht r
theorem rx_W.to0 {D : bx_D} {cl : List vw_C} {A : Nat → Prop} {s : State} {xa : Nat → Nat} {N : Nat} {ht : List rx_C} {r : Nat → Int} {ad : Nat → Nat} {H0 H : Heap} {locs : List Loc} (h : rx_W D cl A s xa N ht r ad H0 H locs) : rx_W0 D cl A s xa N ht r ad H ∧ va_S A H0 H locs := by
  obtain ⟨S, h1, h2, h3, h4⟩ := h
  exact ⟨⟨S, h1, h3, h4⟩, h2⟩
theorem rx_W0.to {D : bx_D} {cl : List vw_C} {A : Nat → Prop} {s : State} {xa : Nat → Nat} {N : Nat} {ht : List rx_C} {r : Nat → Int} {ad : Nat → Nat} {H0 H : Heap} {locs : List Loc} (h : rx_W0 D cl A s xa N ht r ad H) (hS : va_S A H0 H locs) : rx_W D cl A s xa N ht r ad H0 H locs := by
  obtain ⟨S, h1, h3, h4⟩ := h
  exact ⟨S, h1, hS, h3, h4⟩
theorem bx_W0.moved {D : bx_D} {cl : List vw_C} {A : Nat → Prop} {s U : State} {ad : Nat → Nat} {S : Nat → Int → Int} {H : Heap} (h : bx_W0 D cl A s ad S H) (hvm : s.vm.Alike U.vm) : bx_W0 D cl A U ad S H := by
  obtain ⟨ws, tys, hI, hK, h⟩ := h
  exact ⟨ws, tys, hI, va_K.moved hvm hK, h⟩
theorem rx_W0.moved {D : bx_D} {cl : List vw_C} {A : Nat → Prop} {s U : State} {xa : Nat → Nat} {N : Nat} {ht : List rx_C} {r : Nat → Int} {ad : Nat → Nat} {H : Heap} (h : rx_W0 D cl A s xa N ht r ad H) (hvm : s.vm.Alike U.vm) : rx_W0 D cl A U xa N ht r ad H := by
  obtain ⟨S, h1, h3, h4⟩ := h
  exact ⟨S, h1.moved hvm, h3, h4⟩
/-- what holds at an end -/
def rx_RE (D : bx_D) (cl : List vw_C) (A : Nat → Prop) (s : State) (xa : Nat → Nat) (E : rx_End) (r : Nat → Int) (ad : Nat → Nat) (H : Heap) : Prop :=
  rx_sat E.1 r ∧ rx_facts E.2.1 r ∧ rx_fsc E.1.length E.2.1 ∧ rx_W0 D cl A s xa E.1.length E.2.2.1 r ad H ∧ ∀ v, E.2.2.2 = some v → rx_sc E.1.length E.2.2.1.length v
/-- a return instruction that fits an end -/
def rx_rti (M : rx_Mt) (pc : Nat) (r : Nat → Int) (ad xa : Nat → Nat) (v : Option rx_V) : Prop := match v with
  | none => decode M.2.1 pc = .ok (.return_, 1) ∧ M.2.2.2.1 = none
  | some (.inr (0, e)) => decode M.2.1 pc = .ok (.ireturn, 1) ∧ ∃ ty, M.2.2.2.1 = some ty ∧ narrow ty (rx_iv r ad xa (.inr (0, e))) = rx_iv r ad xa (.inr (0, e))
  | some (.inr (1, _)) => decode M.2.1 pc = .ok (.lreturn, 1) ∧ M.2.2.2.1 = some .long
  | some (.inr (2, _)) => False
  | some (.inr (_ + 3, _)) => decode M.2.1 pc = .ok (.areturn, 1) ∧ ∃ ty, M.2.2.2.1 = some ty ∧ ((∃ n, ty = .object n) ∨ ∃ t, ty = .array t)
  | some (.inl _) => False
theorem rx_retk_ok {M : rx_Mt} {i : Instr} {len : Nat} {z : rx_Z} {E : rx_End} {r : Nat → Int} {ad xa : Nat → Nat} (hs : rx_sat z.1 r) (h : rx_retk M i len z = some E) (hdg : decode M.2.1 (rx_zpc z) = .ok (i, len)) : E.1 = z.1 ∧ E.2.1 = z.2.1 ∧ E.2.2.1 = z.2.2.1 ∧ rx_zst z = E.2.2.2.toList ∧ z.2.2.2.1 ≤ M.2.2.2.2.2.2.1 ∧ z.2.2.2.2.1 ≤ M.2.2.2.2.2.2.2 ∧ rx_rti M (rx_zpc z) r ad xa E.2.2.2 := by
  unfold rx_retk at h
  obtain ⟨h1, h2⟩ := rx_if_ok h
  rw [Bool.and_eq_true, Bool.and_eq_true, beq_iff_eq, decide_eq_true_eq, decide_eq_true_eq] at h1
  obtain ⟨hl, hc, hsl⟩ := h1
  subst hl
  split at h2
  · split at h2
    · rename_i e hst
      split at h2
      · rename_i hret
        cases h2
        exact ⟨rfl, rfl, rfl, hst, hc, hsl, hdg, .int, hret, rfl⟩
      · rename_i hret
        obtain ⟨h01, h2⟩ := rx_if_ok h2
        cases h2
        refine ⟨rfl, rfl, rfl, hst, hc, hsl, hdg, .boolean, hret, ?_⟩
        show narrow .boolean (.int (Int32.ofInt (rx_ev r e))) = .int (Int32.ofInt (rx_ev r e))
        rcases rx_in01_ok hs h01 with q | q <;> rw [q] <;> rfl
      · cases h2
    · cases h2
  · split at h2
    · rename_i e hst
      split at h2
      · rename_i hret
        cases h2
        exact ⟨rfl, rfl, rfl, hst, hc, hsl, hdg, hret⟩
      · cases h2
    · cases h2
  · split at h2
    · rename_i o hst
      split at h2
      · rename_i n hret
        cases h2
        exact ⟨rfl, rfl, rfl, hst, hc, hsl, hdg, _, hret, Or.inl ⟨n, rfl⟩⟩
      · rename_i n hret
        cases h2
        exact ⟨rfl, rfl, rfl, hst, hc, hsl, hdg, _, hret, Or.inr ⟨n, rfl⟩⟩
      · cases h2
    · cases h2
  · split at h2
    · rename_i hst
      split at h2
      · rename_i hret
        cases h2
        exact ⟨rfl, rfl, rfl, hst, hc, hsl, hdg, hret⟩
      · cases h2
    · cases h2
  · cases h2
section RXC
variable {p : Program} {l : Launch} {e : Env} {R : Room} {s : State} {m : MethodId} {args : Array Value} {below : List Frame} {meth : Method} {c : Code} {H : Heap} {locs : List Loc} {cells slots : Nat} {Q : State → Prop}
variable {pc : Nat} {ls : Array Slot} {rest st0 : List Value} {A : Nat → Prop} {H0 : Heap} {mc ms : Nat}
theorem rx_call {Qa : State → Outcome → State → Prop} (hr : va_Run p l e R s m args below meth c H locs cells slots mc ms (F0 m pc ls st0) rest Qa A) (hS : va_S A H0 H locs) (hQ : ∀ st oc t, Qa st oc t → va_F A st t)
    (kk : ∀ (v : Option Value) (st t : State) (H1 : Heap) (locs1 : List Loc), t.heap = H1 → st.heap = H → s.vm.Alike t.vm → Qa st (.returned v) t → va_S A H0 H1 locs1 → W p l e R s m args below meth c H1 locs1 (cells + mc) (slots + ms) Q (F0 m (pc + 3) ls (v.toList ++ rest))) : W p l e R s m args below meth c H locs cells slots Q (F0 m pc ls st0) := by
  intro T hT X
  obtain ⟨v, st₀, t, T', L, h0, X', hL, e1, e2, hq, st⟩ := hr T hT X
  obtain ⟨hz, hk⟩ := hQ _ _ _ hq
  rw [h0] at hz hk
  obtain ⟨t2, a1, b1⟩ := kk v st₀ t T'.heap (locs ++ L) e1.symm h0 (by rw [← e2]; exact X'.warmed.alike) hq
    ⟨Nat.le_trans hS.1 (by rw [e1]; exact hz), fun q h1 h2 => by rw [e1, hk q (Nat.lt_of_lt_of_le h1 hS.1) h2]; exact hS.2.1 q h1 h2, fun q hq => by
      rcases List.mem_append.mp hq with h | h
      · exact hS.2.2 q h
      · exact hL q h⟩ T' rfl X'
  exact ⟨t2, st t2 a1, b1⟩
end RXC

