/-! A REFLECTED MACHINE: what a place does, a kind each -/
def rx_q_mc (mc ms : Nat) (z : rx_Z) : Bool := Nat.ble z.2.2.2.1 mc && Nat.ble z.2.2.2.2.1 ms
def rx_q_reti (mc ms : Nat) (z : rx_Z) : Option rx_End := rx_if (rx_q_mc mc ms z) (match rx_zst z with
  | [.inr (0, e)] => some (z.1, z.2.1, z.2.2.1, some (.inr (0, e)))
  | _ => none)
def rx_q_retz (mc ms : Nat) (z : rx_Z) : Option rx_End := rx_if (rx_q_mc mc ms z) (match rx_zst z with
  | [.inr (0, e)] => rx_if (rx_in01 z.1 e) (some (z.1, z.2.1, z.2.2.1, some (.inr (0, e))))
  | _ => none)
def rx_q_retl (mc ms : Nat) (z : rx_Z) : Option rx_End := rx_if (rx_q_mc mc ms z) (match rx_zst z with
  | [.inr (1, e)] => some (z.1, z.2.1, z.2.2.1, some (.inr (1, e)))
  | _ => none)
def rx_q_reta (mc ms : Nat) (z : rx_Z) : Option rx_End := rx_if (rx_q_mc mc ms z) (match rx_zst z with
  | [.inl o] => some (z.1, z.2.1, z.2.2.1, some (.inl o))
  | _ => none)
def rx_q_retv (mc ms : Nat) (z : rx_Z) : Option rx_End := rx_if (rx_q_mc mc ms z) (match rx_zst z with
  | [] => some (z.1, z.2.1, z.2.2.1, none)
  | _ => none)
def rx_q_scall (M M' : rx_Mt) (n : Nat) (z : rx_Z) : Option (List rx_V × List rx_V) := match rx_take n [] (rx_zst z) with
  | some (as, t) => rx_if (rx_may M M' z as t) (some (as, t))
  | none => none
def rx_q_vcall (M M' : rx_Mt) (n ci : Nat) (z : rx_Z) : Option (List rx_V × List rx_V) := match rx_take n [] (rx_zst z) with
  | some (as, t) => match rx_rcv z.2.2.1 ci t with
    | some (k, t2) => rx_if (rx_may M M' z (.inl (some k) :: as) t2) (some (.inl (some k) :: as, t2))
    | none => none
  | none => none
def rx_q_if (cnd : Jvm.ClassFile.Cond) (tgt nx : Nat) (z : rx_Z) : Option (List rx_Z) := match rx_pi (rx_zst z) with
  | some (a, t) => if rx_okI z.1 a then some (rx_fork z cnd a (0, 0) tgt nx t) else none
  | none => none
def rx_q_icmp (cnd : Jvm.ClassFile.Cond) (tgt nx : Nat) (z : rx_Z) : Option (List rx_Z) := match rx_pi (rx_zst z) with
  | some (b, t) => match rx_pi t with
    | some (a, t) => if rx_okI z.1 a && rx_okI z.1 b then some (rx_fork z cnd a b tgt nx t) else none
    | none => none
  | none => none
def rx_q_lcmp (cnd : Jvm.ClassFile.Cond) (tgt nx : Nat) (z : rx_Z) : Option (List rx_Z) := match rx_pl (rx_zst z) with
  | some (b, t) => match rx_pl t with
    | some (a, t) => if rx_okL z.1 a && rx_okL z.1 b then some (rx_fork z cnd a b tgt nx t) else none
    | none => none
  | none => none
def rx_q_goto (tgt : Nat) (z : rx_Z) : Option (List rx_Z) := some [rx_jp z.1 z.2.1 z tgt (rx_zst z)]
def rx_q_get (q : rx_Q) (z : rx_Z) : Option (List rx_Z) := rx_h_get (fun _ => some q) 0 z
def rx_q_put (q : rx_Q) (ini : Bool) (z : rx_Z) : Option (List rx_Z) := rx_h_put (fun _ => some q) ini 0 z
def rx_q_new (q : Nat × List Nat) (mc ms : Nat) (z : rx_Z) : Option (List rx_Z) := rx_h_new (fun _ => some q) mc ms 0 z
def rx_q_newq (ci mc ms : Nat) (z : rx_Z) : Option (List rx_Z) := rx_h_newq (fun _ => some ci) mc ms 0 z
theorem rx_ifN {α : Type} (b : Bool) : rx_if b (none : Option α) = none := by
  cases b <;> rfl
section RXK
variable {T : rx_Tb} {lw : Bool} {M : rx_Mt} {pc : Nat} {xt sl : Nat → Nat → Option Nat} {ln : List Nat} {im : rx_Im}
theorem rx_k_iconst {n m : Int} (hn : n = m) (hd : decode M.2.1 pc = .ok (.iconst n, 1)) : rx_entOK (rx_xh xt sl ln im) T lw M pc (.inl (fun _ => rx_h_push (rx_n m) 1)) := by
  subst hn
  exact ⟨_, _, hd, fun _ _ _ _ _ _ _ _ => ⟨rx_ifN _, fun _ h => h⟩⟩
theorem rx_k_bipush {n m : Int} (hn : (Int8.ofInt n).toInt32.toInt = m) (hd : decode M.2.1 pc = .ok (.bipush n, 2)) : rx_entOK (rx_xh xt sl ln im) T lw M pc (.inl (fun _ => rx_h_push (rx_n m) 2)) := by
  subst hn
  exact ⟨_, _, hd, fun _ _ _ _ _ _ _ _ => ⟨rx_ifN _, fun _ h => h⟩⟩
theorem rx_k_lconst {n : Fin 2} {m : Int} (hn : ((n : Nat) : Int) = m) (hd : decode M.2.1 pc = .ok (.lconst n, 1)) : rx_entOK (rx_xh xt sl ln im) T lw M pc (.inl (fun _ => rx_h_push (.inr (1, (0, m))) 1)) := by
  subst hn
  exact ⟨_, _, hd, fun _ _ _ _ _ _ _ _ => ⟨rx_ifN _, fun _ h => h⟩⟩
theorem rx_k_null (hd : decode M.2.1 pc = .ok (.aconst_null, 1)) : rx_entOK (rx_xh xt sl ln im) T lw M pc (.inl (fun _ => rx_h_push (.inl none) 1)) := ⟨_, _, hd, fun _ _ _ _ _ _ _ _ => ⟨rx_ifN _, fun _ h => h⟩⟩
theorem rx_k_iload_n {k : Fin 4} {i : Nat} (hk : (k : Nat) = i) (hd : decode M.2.1 pc = .ok (.iload_n k, 1)) : rx_entOK (rx_xh xt sl ln im) T lw M pc (.inl (fun _ => rx_h_load 0 i 1)) := by
  subst hk
  exact ⟨_, _, hd, fun _ _ _ _ _ _ _ _ => ⟨rx_ifN _, fun _ h => h⟩⟩
theorem rx_k_iload {i : Nat} (hd : decode M.2.1 pc = .ok (.iload i, 2)) : rx_entOK (rx_xh xt sl ln im) T lw M pc (.inl (fun _ => rx_h_load 0 i 2)) := ⟨_, _, hd, fun _ _ _ _ _ _ _ _ => ⟨rx_ifN _, fun _ h => h⟩⟩
theorem rx_k_lload_n {k : Fin 4} {i : Nat} (hk : (k : Nat) = i) (hd : decode M.2.1 pc = .ok (.lload_n k, 1)) : rx_entOK (rx_xh xt sl ln im) T lw M pc (.inl (fun _ => rx_h_load 1 i 1)) := by
  subst hk
  exact ⟨_, _, hd, fun _ _ _ _ _ _ _ _ => ⟨rx_ifN _, fun _ h => h⟩⟩
theorem rx_k_lload {i : Nat} (hd : decode M.2.1 pc = .ok (.lload i, 2)) : rx_entOK (rx_xh xt sl ln im) T lw M pc (.inl (fun _ => rx_h_load 1 i 2)) := ⟨_, _, hd, fun _ _ _ _ _ _ _ _ => ⟨rx_ifN _, fun _ h => h⟩⟩
theorem rx_k_aload_n {k : Fin 4} {i : Nat} (hk : (k : Nat) = i) (hd : decode M.2.1 pc = .ok (.aload_n k, 1)) : rx_entOK (rx_xh xt sl ln im) T lw M pc (.inl (fun _ => rx_h_loadA i 1)) := by
  subst hk
  exact ⟨_, _, hd, fun _ _ _ _ _ _ _ _ => ⟨rx_ifN _, fun _ h => h⟩⟩
theorem rx_k_aload {i : Nat} (hd : decode M.2.1 pc = .ok (.aload i, 2)) : rx_entOK (rx_xh xt sl ln im) T lw M pc (.inl (fun _ => rx_h_loadA i 2)) := ⟨_, _, hd, fun _ _ _ _ _ _ _ _ => ⟨rx_ifN _, fun _ h => h⟩⟩
theorem rx_k_istore_n {k : Fin 4} {i nL : Nat} (hk : (k : Nat) = i) (hL : M.2.2.1 = nL) (hd : decode M.2.1 pc = .ok (.istore_n k, 1)) : rx_entOK (rx_xh xt sl ln im) T lw M pc (.inl (fun _ => rx_h_istore nL i 1)) := by
  subst hk; subst hL
  exact ⟨_, _, hd, fun _ _ _ _ _ _ _ _ => ⟨rx_ifN _, fun _ h => h⟩⟩
theorem rx_k_istore {i nL : Nat} (hL : M.2.2.1 = nL) (hd : decode M.2.1 pc = .ok (.istore i, 2)) : rx_entOK (rx_xh xt sl ln im) T lw M pc (.inl (fun _ => rx_h_istore nL i 2)) := by
  subst hL
  exact ⟨_, _, hd, fun _ _ _ _ _ _ _ _ => ⟨rx_ifN _, fun _ h => h⟩⟩
theorem rx_k_lstore_n {k : Fin 4} {i nL : Nat} (hk : (k : Nat) = i) (hL : M.2.2.1 = nL) (hd : decode M.2.1 pc = .ok (.lstore_n k, 1)) : rx_entOK (rx_xh xt sl ln im) T lw M pc (.inl (fun _ => rx_h_lstore nL i 1)) := by
  subst hk; subst hL
  exact ⟨_, _, hd, fun _ _ _ _ _ _ _ _ => ⟨rx_ifN _, fun _ h => h⟩⟩
theorem rx_k_lstore {i nL : Nat} (hL : M.2.2.1 = nL) (hd : decode M.2.1 pc = .ok (.lstore i, 2)) : rx_entOK (rx_xh xt sl ln im) T lw M pc (.inl (fun _ => rx_h_lstore nL i 2)) := by
  subst hL
  exact ⟨_, _, hd, fun _ _ _ _ _ _ _ _ => ⟨rx_ifN _, fun _ h => h⟩⟩
theorem rx_k_astore_n {k : Fin 4} {i nL : Nat} (hk : (k : Nat) = i) (hL : M.2.2.1 = nL) (hd : decode M.2.1 pc = .ok (.astore_n k, 1)) : rx_entOK (rx_xh xt sl ln im) T lw M pc (.inl (fun _ => rx_h_astore nL i 1)) := by
  subst hk; subst hL
  exact ⟨_, _, hd, fun _ _ _ _ _ _ _ _ => ⟨rx_ifN _, fun _ h => h⟩⟩
theorem rx_k_astore {i nL : Nat} (hL : M.2.2.1 = nL) (hd : decode M.2.1 pc = .ok (.astore i, 2)) : rx_entOK (rx_xh xt sl ln im) T lw M pc (.inl (fun _ => rx_h_astore nL i 2)) := by
  subst hL
  exact ⟨_, _, hd, fun _ _ _ _ _ _ _ _ => ⟨rx_ifN _, fun _ h => h⟩⟩
theorem rx_k_iinc {i nL : Nat} {n m : Int} (hn : n = m) (hL : M.2.2.1 = nL) (hd : decode M.2.1 pc = .ok (.iinc i n, 3)) : rx_entOK (rx_xh xt sl ln im) T lw M pc (.inl (fun _ => rx_h_iinc nL i m)) := by
  subst hL; subst hn
  exact ⟨_, _, hd, fun _ _ _ _ _ _ _ _ => ⟨rx_ifN _, fun _ h => h⟩⟩
theorem rx_k_iadd (hd : decode M.2.1 pc = .ok (.iadd, 1)) : rx_entOK (rx_xh xt sl ln im) T lw M pc (.inl (fun _ => rx_h_bin 0)) := ⟨_, _, hd, fun _ _ _ _ _ _ _ _ => ⟨rx_ifN _, fun _ h => h⟩⟩
theorem rx_k_isub (hd : decode M.2.1 pc = .ok (.isub, 1)) : rx_entOK (rx_xh xt sl ln im) T lw M pc (.inl (fun _ => rx_h_bin 1)) := ⟨_, _, hd, fun _ _ _ _ _ _ _ _ => ⟨rx_ifN _, fun _ h => h⟩⟩
theorem rx_k_imul (hd : decode M.2.1 pc = .ok (.imul, 1)) : rx_entOK (rx_xh xt sl ln im) T lw M pc (.inl (fun _ => rx_h_bin 2)) := ⟨_, _, hd, fun _ _ _ _ _ _ _ _ => ⟨rx_ifN _, fun _ h => h⟩⟩
theorem rx_k_iand (hd : decode M.2.1 pc = .ok (.iand, 1)) : rx_entOK (rx_xh xt sl ln im) T lw M pc (.inl (fun _ => rx_h_bin 5)) := ⟨_, _, hd, fun _ _ _ _ _ _ _ _ => ⟨rx_ifN _, fun _ h => h⟩⟩
theorem rx_k_ior (hd : decode M.2.1 pc = .ok (.ior, 1)) : rx_entOK (rx_xh xt sl ln im) T lw M pc (.inl (fun _ => rx_h_bin 6)) := ⟨_, _, hd, fun _ _ _ _ _ _ _ _ => ⟨rx_ifN _, fun _ h => h⟩⟩
theorem rx_k_ixor (hd : decode M.2.1 pc = .ok (.ixor, 1)) : rx_entOK (rx_xh xt sl ln im) T lw M pc (.inl (fun _ => rx_h_bin 7)) := ⟨_, _, hd, fun _ _ _ _ _ _ _ _ => ⟨rx_ifN _, fun _ h => h⟩⟩
theorem rx_k_ishl (hd : decode M.2.1 pc = .ok (.ishl, 1)) : rx_entOK (rx_xh xt sl ln im) T lw M pc (.inl (fun _ => rx_h_bin 8)) := ⟨_, _, hd, fun _ _ _ _ _ _ _ _ => ⟨rx_ifN _, fun _ h => h⟩⟩
theorem rx_k_ishr (hd : decode M.2.1 pc = .ok (.ishr, 1)) : rx_entOK (rx_xh xt sl ln im) T lw M pc (.inl (fun _ => rx_h_bin 9)) := ⟨_, _, hd, fun _ _ _ _ _ _ _ _ => ⟨rx_ifN _, fun _ h => h⟩⟩
theorem rx_k_iushr (hd : decode M.2.1 pc = .ok (.iushr, 1)) : rx_entOK (rx_xh xt sl ln im) T lw M pc (.inl (fun _ => rx_h_bin 10)) := ⟨_, _, hd, fun _ _ _ _ _ _ _ _ => ⟨rx_ifN _, fun _ h => h⟩⟩
theorem rx_k_idiv (hd : decode M.2.1 pc = .ok (.idiv, 1)) : rx_entOK (rx_xh xt sl ln im) T lw M pc (.inl (fun _ => rx_h_div 3)) := ⟨_, _, hd, fun _ _ _ _ _ _ _ _ => ⟨rx_ifN _, fun _ h => h⟩⟩
theorem rx_k_irem (hd : decode M.2.1 pc = .ok (.irem, 1)) : rx_entOK (rx_xh xt sl ln im) T lw M pc (.inl (fun _ => rx_h_div 4)) := ⟨_, _, hd, fun _ _ _ _ _ _ _ _ => ⟨rx_ifN _, fun _ h => h⟩⟩
theorem rx_k_ineg (hd : decode M.2.1 pc = .ok (.ineg, 1)) : rx_entOK (rx_xh xt sl ln im) T lw M pc (.inl (fun _ => rx_h_ineg)) := ⟨_, _, hd, fun _ _ _ _ _ _ _ _ => ⟨rx_ifN _, fun _ h => h⟩⟩
theorem rx_k_ladd (hd : decode M.2.1 pc = .ok (.ladd, 1)) : rx_entOK (rx_xh xt sl ln im) T lw M pc (.inl (fun _ => rx_h_binL 0)) := ⟨_, _, hd, fun _ _ _ _ _ _ _ _ => ⟨rx_ifN _, fun _ h => h⟩⟩
theorem rx_k_lsub (hd : decode M.2.1 pc = .ok (.lsub, 1)) : rx_entOK (rx_xh xt sl ln im) T lw M pc (.inl (fun _ => rx_h_binL 1)) := ⟨_, _, hd, fun _ _ _ _ _ _ _ _ => ⟨rx_ifN _, fun _ h => h⟩⟩
theorem rx_k_lmul (hd : decode M.2.1 pc = .ok (.lmul, 1)) : rx_entOK (rx_xh xt sl ln im) T lw M pc (.inl (fun _ => rx_h_binL 2)) := ⟨_, _, hd, fun _ _ _ _ _ _ _ _ => ⟨rx_ifN _, fun _ h => h⟩⟩
theorem rx_k_ldiv (hd : decode M.2.1 pc = .ok (.ldiv, 1)) : rx_entOK (rx_xh xt sl ln im) T lw M pc (.inl (fun _ => rx_h_divL 3)) := ⟨_, _, hd, fun _ _ _ _ _ _ _ _ => ⟨rx_ifN _, fun _ h => h⟩⟩
theorem rx_k_lrem (hd : decode M.2.1 pc = .ok (.lrem, 1)) : rx_entOK (rx_xh xt sl ln im) T lw M pc (.inl (fun _ => rx_h_divL 4)) := ⟨_, _, hd, fun _ _ _ _ _ _ _ _ => ⟨rx_ifN _, fun _ h => h⟩⟩
theorem rx_k_i2l (hd : decode M.2.1 pc = .ok (.i2l, 1)) : rx_entOK (rx_xh xt sl ln im) T lw M pc (.inl (fun _ => rx_h_i2l)) := ⟨_, _, hd, fun _ _ _ _ _ _ _ _ => ⟨rx_ifN _, fun _ h => h⟩⟩
theorem rx_k_dup (hd : decode M.2.1 pc = .ok (.dup, 1)) : rx_entOK (rx_xh xt sl ln im) T lw M pc (.inl (fun _ => rx_h_dup)) := ⟨_, _, hd, fun _ _ _ _ _ _ _ _ => ⟨rx_ifN _, fun _ h => h⟩⟩
theorem rx_k_dup2 (hd : decode M.2.1 pc = .ok (.dup2, 1)) : rx_entOK (rx_xh xt sl ln im) T lw M pc (.inl (fun _ => rx_h_dup2)) := ⟨_, _, hd, fun _ _ _ _ _ _ _ _ => ⟨rx_ifN _, fun _ h => h⟩⟩
theorem rx_k_pop (hd : decode M.2.1 pc = .ok (.pop, 1)) : rx_entOK (rx_xh xt sl ln im) T lw M pc (.inl (fun _ => rx_h_pop)) := ⟨_, _, hd, fun _ _ _ _ _ _ _ _ => ⟨rx_ifN _, fun _ h => h⟩⟩
theorem rx_k_tableswitch {dflt lo hi : Int} {offs : Array Int} {len : Nat} (hd : decode M.2.1 pc = .ok (.tableswitch dflt lo hi offs, len)) : rx_entOK (rx_xh xt sl ln im) T lw M pc (.inl (fun _ => rx_h_table dflt lo hi offs)) := ⟨_, _, hd, fun _ _ _ _ _ _ _ _ => ⟨rx_ifN _, fun _ h => h⟩⟩
theorem rx_k_alenT (hw : lw = true) (hd : decode M.2.1 pc = .ok (.arraylength, 1)) : rx_entOK (rx_xh xt sl ln im) T lw M pc (.inl (fun _ => rx_h_alen)) := by
  subst hw
  exact ⟨_, _, hd, fun _ _ _ _ _ _ _ _ => ⟨rx_ifN _, fun _ h => h⟩⟩
def rx_q_alen (z : rx_Z) : Option (List rx_Z) := rx_if (rx_topc z) (rx_h_alen z)
theorem rx_k_alen (hw : lw = false) (hd : decode M.2.1 pc = .ok (.arraylength, 1)) : rx_entOK (rx_xh xt sl ln im) T lw M pc (.inl (fun _ => rx_q_alen)) := by
  subst hw
  exact ⟨_, _, hd, fun _ _ _ _ _ _ _ _ => ⟨rx_ifN _, fun _ h => h⟩⟩
def rx_q_sld (z : rx_Z) : Option (List rx_Z) := rx_or (rx_h_ald (rx_isTc 0) z) (rx_h_sld z)
theorem rx_k_sld (hw : lw = true) (hd : decode M.2.1 pc = .ok (.iaload, 1)) : rx_entOK (rx_xh xt sl ln im) T lw M pc (.inl (fun _ => rx_q_sld)) := by
  subst hw
  exact ⟨_, _, hd, fun _ _ _ _ _ _ _ _ => ⟨rx_ifN _, fun _ h => h⟩⟩
theorem rx_k_iaload (hd : decode M.2.1 pc = .ok (.iaload, 1)) : rx_entOK (rx_xh xt sl ln im) T lw M pc (.inl (fun _ => rx_h_ald (rx_isTc 0))) := by
  refine ⟨_, _, hd, fun d I F ht c s lv st => ⟨rx_ifN _, fun zs h => ?_⟩⟩
  show rx_or (rx_h_ald (rx_isTc 0) (I, F, ht, c, s, pc, lv, st)) _ = some zs
  try dsimp only at h
  rw [h]
  rfl
theorem rx_k_baload (hd : decode M.2.1 pc = .ok (.baload, 1)) : rx_entOK (rx_xh xt sl ln im) T lw M pc (.inl (fun _ => rx_h_ald (rx_isTc 1))) := ⟨_, _, hd, fun _ _ _ _ _ _ _ _ => ⟨rx_ifN _, fun _ h => h⟩⟩
theorem rx_k_laload (hd : decode M.2.1 pc = .ok (.laload, 1)) : rx_entOK (rx_xh xt sl ln im) T lw M pc (.inl (fun _ => rx_h_ald (rx_isTc 2))) := ⟨_, _, hd, fun _ _ _ _ _ _ _ _ => ⟨rx_ifN _, fun _ h => h⟩⟩
theorem rx_k_aaload (hd : decode M.2.1 pc = .ok (.aaload, 1)) : rx_entOK (rx_xh xt sl ln im) T lw M pc (.inl (fun _ => rx_h_ald rx_isRef)) := ⟨_, _, hd, fun _ _ _ _ _ _ _ _ => ⟨rx_ifN _, fun _ h => h⟩⟩
theorem rx_k_iastore (hd : decode M.2.1 pc = .ok (.iastore, 1)) : rx_entOK (rx_xh xt sl ln im) T lw M pc (.inl (fun _ => rx_h_ast (rx_isTc 0) (fun I _ _ v => rx_fit I 0 v))) := ⟨_, _, hd, fun _ _ _ _ _ _ _ _ => ⟨rx_ifN _, fun _ h => h⟩⟩
theorem rx_k_bastore (hd : decode M.2.1 pc = .ok (.bastore, 1)) : rx_entOK (rx_xh xt sl ln im) T lw M pc (.inl (fun _ => rx_h_ast (rx_isTc 1) (fun I _ _ v => rx_fit I 1 v))) := ⟨_, _, hd, fun _ _ _ _ _ _ _ _ => ⟨rx_ifN _, fun _ h => h⟩⟩
theorem rx_k_lastore (hd : decode M.2.1 pc = .ok (.lastore, 1)) : rx_entOK (rx_xh xt sl ln im) T lw M pc (.inl (fun _ => rx_h_ast (rx_isTc 2) (fun I _ _ v => rx_fit I 2 v))) := ⟨_, _, hd, fun _ _ _ _ _ _ _ _ => ⟨rx_ifN _, fun _ h => h⟩⟩
theorem rx_k_aastore (hd : decode M.2.1 pc = .ok (.aastore, 1)) : rx_entOK (rx_xh xt sl ln im) T lw M pc (.inl (fun _ => rx_h_ast rx_isRef rx_fitA)) := ⟨_, _, hd, fun _ _ _ _ _ _ _ _ => ⟨rx_ifN _, fun _ h => h⟩⟩
theorem rx_k_newarray {a : ArrayType} {mc ms : Nat} (h1 : M.2.2.2.2.2.2.1 = mc) (h2 : M.2.2.2.2.2.2.2 = ms) (hd : decode M.2.1 pc = .ok (.newarray a, 2)) : rx_entOK (rx_xh xt sl ln im) T lw M pc (.inl (fun _ => rx_h_newa mc ms a)) := by
  subst h1; subst h2
  exact ⟨_, _, hd, fun _ _ _ _ _ _ _ _ => ⟨rx_ifN _, fun _ h => h⟩⟩
theorem rx_k_ldc {idx : Nat} {v : Int} (hv : T.2.2.2.1 M.1 idx = some (.inr (0, (0, v)))) (hs : sl M.1 idx = none) (hd : decode M.2.1 pc = .ok (.ldc idx, 2)) : rx_entOK (rx_xh xt sl ln im) T lw M pc (.inl (fun _ => rx_h_push (rx_n v) 2)) := by
  refine ⟨_, _, hd, fun d I F ht c s lv st => ⟨rx_ifN _, fun zs h => ?_⟩⟩
  show rx_or (rx_x_str sl M.1 idx _) (rx_h_const T.2.2.2.1 M.1 idx 0 2 _) = some zs
  unfold rx_x_str rx_h_const
  rw [hv, hs]
  exact h
theorem rx_k_ldcw {idx : Nat} {v : Int} (hv : T.2.2.2.1 M.1 idx = some (.inr (0, (0, v)))) (hd : decode M.2.1 pc = .ok (.ldc_w idx, 3)) : rx_entOK (rx_xh xt sl ln im) T lw M pc (.inl (fun _ => rx_h_push (rx_n v) 3)) := by
  refine ⟨_, _, hd, fun d I F ht c s lv st => ⟨rx_ifN _, fun zs h => ?_⟩⟩
  show rx_h_const T.2.2.2.1 M.1 idx 0 3 _ = some zs
  unfold rx_h_const
  rw [hv]
  exact h
theorem rx_k_ldc2 {idx : Nat} {v : Int} (hv : T.2.2.2.1 M.1 idx = some (.inr (1, (0, v)))) (hd : decode M.2.1 pc = .ok (.ldc2_w idx, 3)) : rx_entOK (rx_xh xt sl ln im) T lw M pc (.inl (fun _ => rx_h_push (.inr (1, (0, v))) 3)) := by
  refine ⟨_, _, hd, fun d I F ht c s lv st => ⟨rx_ifN _, fun zs h => ?_⟩⟩
  show rx_h_const T.2.2.2.1 M.1 idx 1 3 _ = some zs
  unfold rx_h_const
  rw [hv]
  exact h
theorem rx_k_ldcS {idx n : Nat} (hs : sl M.1 idx = some n) (hd : decode M.2.1 pc = .ok (.ldc idx, 2)) : rx_entOK (rx_xh xt sl ln im) T lw M pc (.inl (fun _ => rx_h_push (.inr (2, (0, (n : Int)))) 2)) := by
  refine ⟨_, _, hd, fun d I F ht c s lv st => ⟨rx_ifN _, fun zs h => ?_⟩⟩
  show rx_or (rx_x_str sl M.1 idx _) _ = some zs
  unfold rx_x_str
  rw [hs]
  exact h
theorem rx_k_sipush {n m : Int} (hn : (Int16.ofInt n).toInt32.toInt = m) (hi : im M n pc = false) (hd : decode M.2.1 pc = .ok (.sipush n, 3)) : rx_entOK (rx_xh xt sl ln im) T lw M pc (.inl (fun _ => rx_h_push (rx_n m) 3)) := by
  subst hn
  refine ⟨_, _, hd, fun d I F ht c s lv st => ⟨rx_ifN _, fun zs h => ?_⟩⟩
  show rx_or (rx_if (im M n pc) (rx_x_image _)) _ = some zs
  rw [hi]
  exact h
theorem rx_k_image {n : Int} (hi : im M n pc = true) (hd : decode M.2.1 pc = .ok (.sipush n, 3)) : rx_entOK (rx_xh xt sl ln im) T lw M pc (.inl (fun _ => rx_x_image)) := by
  refine ⟨_, _, hd, fun d I F ht c s lv st => ⟨rx_ifN _, fun zs h => ?_⟩⟩
  show rx_or (rx_if (im M n pc) (rx_x_image _)) _ = some zs
  rw [hi]
  show rx_or (rx_x_image (I, F, ht, c, s, pc, lv, st)) _ = some zs
  try dsimp only at h
  rw [h]
  rfl
theorem rx_k_init {idx : Nat} (hx : xt M.1 idx = some 10) (hd : decode M.2.1 pc = .ok (.invokespecial idx, 3)) : rx_entOK (rx_xh xt sl ln im) T lw M pc (.inl (fun _ => rx_x_init)) := by
  refine ⟨_, _, hd, fun d I F ht c s lv st => ⟨rx_ifN _, fun zs h => ?_⟩⟩
  show rx_or (rx_if (3 == 3 && xt M.1 idx == some 10) (rx_x_init _)) _ = some zs
  rw [hx]
  show rx_or (rx_x_init (I, F, ht, c, s, pc, lv, st)) _ = some zs
  try dsimp only at h
  rw [h]
  rfl
theorem rx_k_slen {idx : Nat} (hx : xt M.1 idx = some 14) (hd : decode M.2.1 pc = .ok (.invokevirtual idx, 3)) : rx_entOK (rx_xh xt sl ln im) T lw M pc (.inl (rx_x_slen ln)) := by
  refine ⟨_, _, hd, fun d I F ht c s lv st => ⟨rx_ifN _, fun zs h => ?_⟩⟩
  show rx_or (rx_if (3 == 3 && xt M.1 idx == some 14) (rx_x_slen ln d _)) _ = some zs
  rw [hx]
  show rx_or (rx_x_slen ln d (I, F, ht, c, s, pc, lv, st)) _ = some zs
  try dsimp only at h
  rw [h]
  rfl
theorem rx_k_copy {idx : Nat} (hx : xt M.1 idx = some 11) (hd : decode M.2.1 pc = .ok (.invokestatic idx, 3)) : rx_entOK (rx_xh xt sl ln im) T lw M pc (.inl rx_x_copy) := by
  refine ⟨_, _, hd, fun d I F ht c s lv st => ⟨rx_ifN _, fun zs h => ?_⟩⟩
  have e : rx_xh xt sl ln im d M (.invokestatic idx) 3 (I, F, ht, c, s, pc, lv, st) = rx_x_copy d (I, F, ht, c, s, pc, lv, st) := by
    show (match xt M.1 idx with
      | some 11 => rx_x_copy d (I, F, ht, c, s, pc, lv, st)
      | some 12 => rx_x_fill d (I, F, ht, c, s, pc, lv, st)
      | some 13 => rx_x_min d (I, F, ht, c, s, pc, lv, st)
      | _ => none) = _
    rw [hx]
    try rfl
  rw [e, h]
  rfl
theorem rx_k_fill {idx : Nat} (hx : xt M.1 idx = some 12) (hd : decode M.2.1 pc = .ok (.invokestatic idx, 3)) : rx_entOK (rx_xh xt sl ln im) T lw M pc (.inl rx_x_fill) := by
  refine ⟨_, _, hd, fun d I F ht c s lv st => ⟨rx_ifN _, fun zs h => ?_⟩⟩
  have e : rx_xh xt sl ln im d M (.invokestatic idx) 3 (I, F, ht, c, s, pc, lv, st) = rx_x_fill d (I, F, ht, c, s, pc, lv, st) := by
    show (match xt M.1 idx with
      | some 11 => rx_x_copy d (I, F, ht, c, s, pc, lv, st)
      | some 12 => rx_x_fill d (I, F, ht, c, s, pc, lv, st)
      | some 13 => rx_x_min d (I, F, ht, c, s, pc, lv, st)
      | _ => none) = _
    rw [hx]
    try rfl
  rw [e, h]
  rfl
theorem rx_k_min {idx : Nat} (hx : xt M.1 idx = some 13) (hd : decode M.2.1 pc = .ok (.invokestatic idx, 3)) : rx_entOK (rx_xh xt sl ln im) T lw M pc (.inl rx_x_min) := by
  refine ⟨_, _, hd, fun d I F ht c s lv st => ⟨rx_ifN _, fun zs h => ?_⟩⟩
  have e : rx_xh xt sl ln im d M (.invokestatic idx) 3 (I, F, ht, c, s, pc, lv, st) = rx_x_min d (I, F, ht, c, s, pc, lv, st) := by
    show (match xt M.1 idx with
      | some 11 => rx_x_copy d (I, F, ht, c, s, pc, lv, st)
      | some 12 => rx_x_fill d (I, F, ht, c, s, pc, lv, st)
      | some 13 => rx_x_min d (I, F, ht, c, s, pc, lv, st)
      | _ => none) = _
    rw [hx]
    try rfl
  rw [e, h]
  rfl
theorem rx_k_if {cnd : Jvm.ClassFile.Cond} {off : Int} {tgt nx : Nat} (ho : rx_off pc off = some tgt) (hn : pc + 3 = nx) (hd : decode M.2.1 pc = .ok (.ifCond cnd off, 3)) : rx_entOK (rx_xh xt sl ln im) T lw M pc (.inl (fun _ => rx_q_if cnd tgt nx)) := by
  subst hn
  refine ⟨_, _, hd, fun d I F ht c s lv st => ⟨rx_ifN _, fun zs h => ?_⟩⟩
  show rx_h_if cnd off (I, F, ht, c, s, pc, lv, st) = some zs
  have ho2 : rx_off (rx_zpc (I, F, ht, c, s, pc, lv, st)) off = some tgt := ho
  have h : rx_q_if cnd tgt (pc + 3) (I, F, ht, c, s, pc, lv, st) = some zs := h
  unfold rx_q_if at h
  unfold rx_h_if
  rw [ho2]
  split at h
  · rename_i e
    rw [e]
    exact h
  · cases h
theorem rx_k_icmp {cnd : Jvm.ClassFile.Cond} {off : Int} {tgt nx : Nat} (ho : rx_off pc off = some tgt) (hn : pc + 3 = nx) (hd : decode M.2.1 pc = .ok (.if_icmp cnd off, 3)) : rx_entOK (rx_xh xt sl ln im) T lw M pc (.inl (fun _ => rx_q_icmp cnd tgt nx)) := by
  subst hn
  refine ⟨_, _, hd, fun d I F ht c s lv st => ⟨rx_ifN _, fun zs h => ?_⟩⟩
  show rx_h_icmp cnd off (I, F, ht, c, s, pc, lv, st) = some zs
  have ho2 : rx_off (rx_zpc (I, F, ht, c, s, pc, lv, st)) off = some tgt := ho
  have h : rx_q_icmp cnd tgt (pc + 3) (I, F, ht, c, s, pc, lv, st) = some zs := h
  unfold rx_q_icmp at h
  unfold rx_h_icmp
  rw [ho2]
  split at h
  · rename_i e
    rw [e]
    exact h
  · cases h
theorem rx_k_lcmp {cnd : Jvm.ClassFile.Cond} {off : Int} {tgt nx : Nat} (ho : rx_off (pc + 1) off = some tgt) (hn : pc + 4 = nx) (hd2 : decode M.2.1 (pc + 1) = .ok (.ifCond cnd off, 3)) (hd : decode M.2.1 pc = .ok (.lcmp, 1)) : rx_entOK (rx_xh xt sl ln im) T lw M pc (.inl (fun _ => rx_q_lcmp cnd tgt nx)) := by
  subst hn
  refine ⟨_, _, hd, fun d I F ht c s lv st => ⟨rx_ifN _, fun zs h => ?_⟩⟩
  show rx_h_lcmp (decode M.2.1 (pc + 1)) (I, F, ht, c, s, pc, lv, st) = some zs
  have h : rx_q_lcmp cnd tgt (pc + 4) (I, F, ht, c, s, pc, lv, st) = some zs := h
  unfold rx_q_lcmp at h
  unfold rx_h_lcmp
  rw [hd2]
  split at h
  · rename_i b t e
    rw [e]
    dsimp only
    split at h
    · rename_i a t2 e2
      rw [e2]
      show (match rx_off (pc + 1) off with
        | some tgt => if rx_okL I a && rx_okL I b then some (rx_fork (I, F, ht, c, s, pc, lv, st) cnd a b tgt (pc + 4) t2) else none
        | none => none) = some zs
      rw [ho]
      exact h
    · cases h
  · cases h
theorem rx_k_goto {off : Int} {tgt : Nat} (ho : rx_off pc off = some tgt) (hd : decode M.2.1 pc = .ok (.goto off, 3)) : rx_entOK (rx_xh xt sl ln im) T lw M pc (.inl (fun _ => rx_q_goto tgt)) := by
  refine ⟨_, _, hd, fun d I F ht c s lv st => ⟨rx_ifN _, fun zs h => ?_⟩⟩
  show rx_h_goto off (I, F, ht, c, s, pc, lv, st) = some zs
  have ho2 : rx_off (rx_zpc (I, F, ht, c, s, pc, lv, st)) off = some tgt := ho
  unfold rx_h_goto
  rw [ho2]
  exact h
theorem rx_k_get {idx : Nat} {q : rx_Q} (hq : T.1 M.1 idx = some q) (hd : decode M.2.1 pc = .ok (.getfield idx, 3)) : rx_entOK (rx_xh xt sl ln im) T lw M pc (.inl (fun _ => rx_q_get q)) := by
  refine ⟨_, _, hd, fun d I F ht c s lv st => ⟨rx_ifN _, fun zs h => ?_⟩⟩
  show rx_h_get (T.1 M.1) idx (I, F, ht, c, s, pc, lv, st) = some zs
  unfold rx_h_get
  rw [hq]
  exact h
theorem rx_k_put {idx : Nat} {q : rx_Q} {ini : Bool} (hq : T.1 M.1 idx = some q) (hi : M.2.2.2.2.2.1 = ini) (hd : decode M.2.1 pc = .ok (.putfield idx, 3)) : rx_entOK (rx_xh xt sl ln im) T lw M pc (.inl (fun _ => rx_q_put q ini)) := by
  subst hi
  refine ⟨_, _, hd, fun d I F ht c s lv st => ⟨rx_ifN _, fun zs h => ?_⟩⟩
  show rx_h_put (T.1 M.1) _ idx (I, F, ht, c, s, pc, lv, st) = some zs
  unfold rx_h_put
  rw [hq]
  exact h
theorem rx_k_new {idx mc ms : Nat} {q : Nat × List Nat} (hq : T.2.1 M.1 idx = some q) (h1 : M.2.2.2.2.2.2.1 = mc) (h2 : M.2.2.2.2.2.2.2 = ms) (hd : decode M.2.1 pc = .ok (.new idx, 3)) : rx_entOK (rx_xh xt sl ln im) T lw M pc (.inl (fun _ => rx_q_new q mc ms)) := by
  subst h1; subst h2
  refine ⟨_, _, hd, fun d I F ht c s lv st => ⟨rx_ifN _, fun zs h => ?_⟩⟩
  show rx_h_new (T.2.1 M.1) _ _ idx (I, F, ht, c, s, pc, lv, st) = some zs
  unfold rx_h_new
  rw [hq]
  exact h
theorem rx_k_newq {idx ci mc ms : Nat} (hq : T.2.2.1 M.1 idx = some ci) (h1 : M.2.2.2.2.2.2.1 = mc) (h2 : M.2.2.2.2.2.2.2 = ms) (hd : decode M.2.1 pc = .ok (.anewarray idx, 3)) : rx_entOK (rx_xh xt sl ln im) T lw M pc (.inl (fun _ => rx_q_newq ci mc ms)) := by
  subst h1; subst h2
  refine ⟨_, _, hd, fun d I F ht c s lv st => ⟨rx_ifN _, fun zs h => ?_⟩⟩
  show rx_h_newq (T.2.2.1 M.1) _ _ idx (I, F, ht, c, s, pc, lv, st) = some zs
  unfold rx_h_newq
  rw [hq]
  exact h
theorem rx_q_may {M : rx_Mt} {mc ms : Nat} {z : rx_Z} {α : Type} {x : Option α} (h1 : M.2.2.2.2.2.2.1 = mc) (h2 : M.2.2.2.2.2.2.2 = ms) : rx_if (1 == 1 && (decide (z.2.2.2.1 ≤ M.2.2.2.2.2.2.1) && decide (z.2.2.2.2.1 ≤ M.2.2.2.2.2.2.2))) x = rx_if (rx_q_mc mc ms z) x := by
  subst h1; subst h2
  have e : ∀ a b : Nat, decide (a ≤ b) = Nat.ble a b := fun a b => by
    rw [Bool.eq_iff_iff, decide_eq_true_eq, Nat.ble_eq]
  unfold rx_q_mc
  rw [e, e]
  rfl
theorem rx_k_reti {mc ms : Nat} (h1 : M.2.2.2.2.2.2.1 = mc) (h2 : M.2.2.2.2.2.2.2 = ms) (hr : M.2.2.2.1 = some .int) (hd : decode M.2.1 pc = .ok (.ireturn, 1)) : rx_entOK (rx_xh xt sl ln im) T lw M pc (.inr (.inl (rx_q_reti mc ms))) := by
  refine ⟨_, _, hd, fun I F ht c s lv st E h => ?_⟩
  unfold rx_retk
  rw [hr, rx_q_may h1 h2]
  exact h
theorem rx_k_retz {mc ms : Nat} (h1 : M.2.2.2.2.2.2.1 = mc) (h2 : M.2.2.2.2.2.2.2 = ms) (hr : M.2.2.2.1 = some .boolean) (hd : decode M.2.1 pc = .ok (.ireturn, 1)) : rx_entOK (rx_xh xt sl ln im) T lw M pc (.inr (.inl (rx_q_retz mc ms))) := by
  refine ⟨_, _, hd, fun I F ht c s lv st E h => ?_⟩
  unfold rx_retk
  rw [hr, rx_q_may h1 h2]
  exact h
theorem rx_k_retl {mc ms : Nat} (h1 : M.2.2.2.2.2.2.1 = mc) (h2 : M.2.2.2.2.2.2.2 = ms) (hr : M.2.2.2.1 = some .long) (hd : decode M.2.1 pc = .ok (.lreturn, 1)) : rx_entOK (rx_xh xt sl ln im) T lw M pc (.inr (.inl (rx_q_retl mc ms))) := by
  refine ⟨_, _, hd, fun I F ht c s lv st E h => ?_⟩
  unfold rx_retk
  rw [hr, rx_q_may h1 h2]
  exact h
theorem rx_k_retv {mc ms : Nat} (h1 : M.2.2.2.2.2.2.1 = mc) (h2 : M.2.2.2.2.2.2.2 = ms) (hr : M.2.2.2.1 = none) (hd : decode M.2.1 pc = .ok (.return_, 1)) : rx_entOK (rx_xh xt sl ln im) T lw M pc (.inr (.inl (rx_q_retv mc ms))) := by
  refine ⟨_, _, hd, fun I F ht c s lv st E h => ?_⟩
  unfold rx_retk
  rw [hr, rx_q_may h1 h2]
  exact h
theorem rx_k_reta {mc ms : Nat} (h1 : M.2.2.2.2.2.2.1 = mc) (h2 : M.2.2.2.2.2.2.2 = ms) (hr : (∃ n, M.2.2.2.1 = some (.object n)) ∨ ∃ n, M.2.2.2.1 = some (.array n)) (hd : decode M.2.1 pc = .ok (.areturn, 1)) : rx_entOK (rx_xh xt sl ln im) T lw M pc (.inr (.inl (rx_q_reta mc ms))) := by
  refine ⟨_, _, hd, fun I F ht c s lv st E h => ?_⟩
  unfold rx_retk
  rcases hr with ⟨n, hr⟩ | ⟨n, hr⟩
  all_goals
    rw [hr, rx_q_may h1 h2]
    exact h
theorem rx_k_call0 {idx how n ci j' : Nat} {M' : rx_Mt} (hq : T.2.2.2.2.1 M.1 idx = some (how, n, ci, j')) (hM : T.2.2.2.2.2 j' = some M') (hw : (how % 3 == 0 && decide (how < 6)) = true) (hx : xt M.1 idx = none) (hd : decode M.2.1 pc = .ok (.invokevirtual idx, 3)) : rx_entOK (rx_xh xt sl ln im) T lw M pc (.inr (.inr (j', M', rx_q_vcall M M' n ci))) := by
  refine ⟨_, _, hd, hM, fun d I F ht c s lv st => ⟨rfl, ?_, fun as t h => ⟨(how, n, ci, j'), ?_⟩⟩⟩
  · show rx_or (rx_if (3 == 3 && xt M.1 idx == some 14) _) _ = none
    rw [hx]
    rfl
  · unfold rx_prep rx_cidx
    unfold rx_q_vcall at h
    dsimp only at h ⊢
    rw [hq]
    dsimp only
    rw [hM]
    split at h
    · rename_i as2 t2 e
      rw [e]
      dsimp only
      rw [hw]
      split at h
      · rename_i k t3 e2
        obtain ⟨h1, h2⟩ := rx_if_ok h
        cases h2
        have hne : ¬ ((0 : Nat) = 1) := by decide
        rw [if_neg hne, e2]
        dsimp only
        rw [h1]
        rfl
      · cases h
    · cases h
theorem rx_k_call1 {idx how n ci j' : Nat} {M' : rx_Mt} (hq : T.2.2.2.2.1 M.1 idx = some (how, n, ci, j')) (hM : T.2.2.2.2.2 j' = some M') (hw : (how % 3 == 1 && decide (how < 6)) = true) (hx : xt M.1 idx = none) (hd : decode M.2.1 pc = .ok (.invokestatic idx, 3)) : rx_entOK (rx_xh xt sl ln im) T lw M pc (.inr (.inr (j', M', rx_q_scall M M' n))) := by
  refine ⟨_, _, hd, hM, fun d I F ht c s lv st => ⟨rfl, ?_, fun as t h => ⟨(how, n, ci, j'), ?_⟩⟩⟩
  · have e : rx_xh xt sl ln im d M (.invokestatic idx) 3 (I, F, ht, c, s, pc, lv, st) = none := by
      show (match xt M.1 idx with
        | some 11 => rx_x_copy d (I, F, ht, c, s, pc, lv, st)
        | some 12 => rx_x_fill d (I, F, ht, c, s, pc, lv, st)
        | some 13 => rx_x_min d (I, F, ht, c, s, pc, lv, st)
        | _ => none) = _
      rw [hx]
      try rfl
    rw [e]
    rfl
  · unfold rx_prep rx_cidx
    unfold rx_q_scall at h
    dsimp only at h ⊢
    rw [hq]
    dsimp only
    rw [hM]
    split at h
    · rename_i as2 t2 e
      rw [e]
      dsimp only
      rw [hw]
      obtain ⟨h1, h2⟩ := rx_if_ok h
      cases h2
      rw [h1]
      rfl
    · cases h
theorem rx_k_call2 {idx how n ci j' : Nat} {M' : rx_Mt} (hq : T.2.2.2.2.1 M.1 idx = some (how, n, ci, j')) (hM : T.2.2.2.2.2 j' = some M') (hw : (how % 3 == 2 && decide (how < 6)) = true) (hx : xt M.1 idx = none) (hd : decode M.2.1 pc = .ok (.invokespecial idx, 3)) : rx_entOK (rx_xh xt sl ln im) T lw M pc (.inr (.inr (j', M', rx_q_vcall M M' n ci))) := by
  refine ⟨_, _, hd, hM, fun d I F ht c s lv st => ⟨rfl, ?_, fun as t h => ⟨(how, n, ci, j'), ?_⟩⟩⟩
  · show rx_or (rx_if (3 == 3 && xt M.1 idx == some 10) _) _ = none
    rw [hx]
    rfl
  · unfold rx_prep rx_cidx
    unfold rx_q_vcall at h
    dsimp only at h ⊢
    rw [hq]
    dsimp only
    rw [hM]
    split at h
    · rename_i as2 t2 e
      rw [e]
      dsimp only
      rw [hw]
      split at h
      · rename_i k t3 e2
        obtain ⟨h1, h2⟩ := rx_if_ok h
        cases h2
        have hne : ¬ ((2 : Nat) = 1) := by decide
        rw [if_neg hne, e2]
        dsimp only
        rw [h1]
        rfl
      · cases h
    · cases h
end RXK
