/-! THE CLAIM OUT OF ONE WALK OF THE LAW'S BODY. Your part is whole_start (and what it stands on); all else here is the same for every law, but numbers. -/
def R_law : String := "DeadUnderstudiesLaw"
def lw_P (b : Addr) (xs : List Int32) (args : Array Value) (s : State) : Prop := args = #[.ref b] ∧ s.IntsAt b xs ∧ xs.length ≤ 6 ∧ (Jvm.Cond.and given_1 narrow_1).before args s = true
def lw_Q (_ : Array Value) (s : State) (o : Outcome) (t : State) : Prop := o = .returned (some (.int 1)) ∧ Framed s o t [] 600000 7302250
def lw_Z (below : List Frame) (a : Array Value) (s : State) : State → Prop := fun t => ∃ o, t.status = .running ∧ Ended t below o ∧ lw_Q a s o t
/-- the law's own end, with 1 on the stack, nothing written that was there before, its room as the claim has it -/
theorem lw_ret {p : Program} {l : Launch} {e : Env} {s : State} {m : MethodId} {below : List Frame} {meth : Method} {c : Code} {b : Nat} (hx : p.tables.exec = Jvm.exec) (hb : c.code = code) (hr : meth.sig.returnType = ret) (hlocks : meth.locks = false) {pc : Nat} {H : Heap} {ls : Array Slot} (hdg : decode code pc = .ok (.ireturn, 1)) : W p l e room_1 s m #[Value.ref b] below meth c H [] 600000 7302250 (lw_Z below #[Value.ref b] s) (F0 m pc ls [.int 1]) := by
  intro T hT X
  obtain ⟨fs, hret, hrun, hended, hW, hframe⟩ := X.leave (v := some (.int 1)) (hlocks := hlocks) (fun h => by rw [hr] at h; cases h)
  have hmeth' : T.vm.method? m = some meth := X.method'
  refine ⟨T.setFrames fs, ?_, .returned (some (.int 1)), hrun, hended, rfl, ⟨_, rfl⟩, hW, hframe⟩
  jvm_step X.here [X.here.top, hx, hb, hdg, hmeth', hr, ret, narrow_b1]
  (try refine ⟨rfl, ?_⟩); (try refine ⟨rfl, ?_⟩)
  first | (intro acts; rw [hret _ acts rfl rfl rfl]) | rw [hret _ _ rfl rfl rfl]
  exact Steps.refl _
/-- what holds at the law's entry: the machine, the code, the tables' words (any of lw_tbl by 'hts w (by decide +kernel)'), the script of L ints xs at the cell b, what the Statement gives of the start (any of its parts by flat_of_before) -/
def lw_At (p : Program) (s : State) (m : MethodId) (meth : Method) (c : Code) (b L : Nat) (xs : Nat → Int32) : Prop :=
  p.tables.exec = Jvm.exec ∧ c.code = code ∧ meth.sig.returnType = ret ∧ c.maxLocals = 4 ∧ s.vm.findClass R_law = some m.cls ∧ (∀ w ∈ lw_tbl, w.before #[Value.ref b] s = true) ∧ va_X b L xs s s.heap ∧ b < s.heap.size ∧ meth.locks = false ∧ (Jvm.Cond.and given_1 narrow_1).before #[Value.ref b] s = true
theorem rxCase_all : ∀ k, k < 52 → rxCase k = true := rx_lts (rx_lts (rx_lts (rx_lts (rx_lts (rx_lts (rx_lts (rx_lts (rx_lts (rx_lts (rx_lts (rx_lts (rx_lts (rx_lts (rx_lts (rx_lts (rx_lts (rx_lts (rx_lts (rx_lts (rx_lts (rx_lts (rx_lts (rx_lts (rx_lts (rx_lts (rx_lts (rx_lts (rx_lts (rx_lts (rx_lts (rx_lts (rx_lts (rx_lts (rx_lts (rx_lts (rx_lts (rx_lts (rx_lts (rx_lts (rx_lts (rx_lts (rx_lts (rx_lts (rx_lts (rx_lts (rx_lts (rx_lts (rx_lts (rx_lts (rx_lts (rx_lts (rx_lt0) rx_case_0) rx_case_1) rx_case_2) rx_case_3) rx_case_4) rx_case_5) rx_case_6) rx_case_7) rx_case_8) rx_case_9) rx_case_10) rx_case_11) rx_case_12) rx_case_13) rx_case_14) rx_case_15) rx_case_16) rx_case_17) rx_case_18) rx_case_19) rx_case_20) rx_case_21) rx_case_22) rx_case_23) rx_case_24) rx_case_25) rx_case_26) rx_case_27) rx_case_28) rx_case_29) rx_case_30) rx_case_31) rx_case_32) rx_case_33) rx_case_34) rx_case_35) rx_case_36) rx_case_37) rx_case_38) rx_case_39) rx_case_40) rx_case_41) rx_case_42) rx_case_43) rx_case_44) rx_case_45) rx_case_46) rx_case_47) rx_case_48) rx_case_49) rx_case_50) rx_case_51
theorem rx_mem_nth {α : Type} {a : α} : ∀ {l : List α}, a ∈ l → ∃ k, k < l.length ∧ rx_nth l k = some a
  | [], h => absurd h List.not_mem_nil
  | b :: l, h => by
    rcases List.mem_cons.mp h with e | e
    · subst e
      exact ⟨0, Nat.zero_lt_succ _, rfl⟩
    · obtain ⟨k, h1, h2⟩ := rx_mem_nth (l := l) e
      exact ⟨k + 1, Nat.succ_lt_succ h1, h2⟩
theorem rxEnds_ok {o : Option (List rx_End)} (h : rxEnds o = true) : ∃ Es, o = some Es ∧ ∀ E ∈ Es, E.2.2.2 = some (.inr (0, (0, 1))) := by
  unfold rxEnds at h
  split at h
  · rename_i Es
    refine ⟨Es, rfl, fun E hE => ?_⟩
    have h1 := List.all_eq_true.mp h E hE
    split at h1
    · rename_i e
      exact e
    · cases h1
  · cases h
/-- the whole run: every end answers 1 -/
theorem rxLaw_run : rx_ru rxCT 12 176 (fun E => E.2.2.2 = some (.inr (0, (0, 1)))) rxZ0 := by
  refine rx_sg_ok 10000 12 176 rxZ0 [rxZ15] (rx_isZ_ok rx_start) fun z hz => ?_
  rw [List.mem_singleton.mp hz]
  have hn := rx_cases_n
  cases hc : rxCs with
  | none =>
    rw [hc] at hn
    cases hn
  | some zs =>
    rw [hc] at hn
    have hn2 : zs.length ≤ 52 := Nat.ble_eq.mp hn
    refine rx_sg_ok 200 12 176 rxZ15 zs hc fun z hz => ?_
    obtain ⟨k, h1, h2⟩ := rx_mem_nth hz
    have h3 := rxCase_all k (Nat.lt_of_lt_of_le h1 hn2)
    unfold rxCase at h3
    rw [hc] at h3
    dsimp only at h3
    rw [h2] at h3
    obtain ⟨Es, h4, h5⟩ := rxEnds_ok h3
    exact ⟨4000, Es, h4, h5⟩
def rxR0 (L : Nat) (xs : Nat → Int32) : Nat → Int := fun n => match n with
  | 0 => 0
  | 1 => (L : Int)
  | j + 2 => (xs j).toInt
theorem rx_sat0 {L : Nat} {xs : Nat → Int32} (hL : L ≤ 6) : rx_sat rxI0 (rxR0 L xs) := by
  refine ⟨rfl, by decide, fun n lo hi h => ?_⟩
  match n, h with
  | 0, h =>
    cases h
    exact ⟨Int.le_refl _, Int.le_refl _⟩
  | 1, h =>
    cases h
    exact ⟨Int.natCast_nonneg L, Int.ofNat_le.mpr hL⟩
  | 2, h => cases h; exact rx_b32 _
  | 3, h => cases h; exact rx_b32 _
  | 4, h => cases h; exact rx_b32 _
  | 5, h => cases h; exact rx_b32 _
  | 6, h => cases h; exact rx_b32 _
  | 7, h => cases h; exact rx_b32 _
  | _ + 8, h => cases h
theorem rx_law {p : Program} {e : Env} {s : State} {m : MethodId} {below : List Frame} {meth : Method} {c : Code} (l : Launch) {b L : Nat} {xs : Nat → Int32} (hL : L ≤ 6) (C0 : lw_At p s m meth c b L xs) (xa : Nat → Nat) (hxa : xa 0 = b) (PX : State → Prop) (hP : PX s) (hPX : rx_PXOK rxNW (fun q => s.heap.size ≤ q) PX)
    (hxh : ∀ D, rx_xhOK rxXh rxG rxNW rxAO vwCl rxNm (fun q => s.heap.size ≤ q) xa PX l D) : W p l e room_1 s m #[Value.ref b] below meth c s.heap [] 0 0 (lw_Z below #[Value.ref b] s) (entryFrame m ([Value.ref b] : List Value).toArray 4) := by
  subst hxa
  obtain ⟨hx, hb, hr, hml, hown, hts, hX, hbl, hlk, hgv⟩ := C0
  have htsG : ∀ w ∈ rxG, w.before #[Value.ref (xa 0)] s = true := fun w hw => hts w (List.mem_filter.mp hw).1
  have hcls : ∀ ci : Nat, ∃ (cC : ClassId) (iS : Nat → Nat), ∀ q, vwCl[ci]? = some q → u_Kn s q.1 q.2.1 q.2.2 cC iS := by
    intro ci
    cases hq : vwCl[ci]? with
    | none => exact ⟨m.cls, fun _ => 0, fun q h => by cases h⟩
    | some q =>
      obtain ⟨h1, h2⟩ := rxCls_ok q (List.mem_of_getElem? hq)
      obtain ⟨cC, iS, h3⟩ := u_known htsG h1 (htsG _ h2)
      exact ⟨cC, iS, fun q' h => by cases h; exact h3⟩
  obtain ⟨f1, hf1⟩ := Classical.axiomOfChoice hcls
  obtain ⟨f2, hf2⟩ := Classical.axiomOfChoice hf1
  have hK : va_K (f1, f2) vwCl [] s := ⟨fun k q hq => hf2 k q hq, fun k q h => by cases h⟩
  have hF : rx_Fr rxG rxNW rxAO PX p s m #[Value.ref (xa 0)] meth c rxMlaw := ⟨hx, hb, hr, hml, hown, hlk, htsG, fun w hw => va_Nw.of (rxNW_ok w hw).1 (hts w (rxNW_in w hw)), fun C hC => va_AO.of (hts _ (rxAO_in C hC)), hP, fun h => by cases h⟩
  obtain ⟨f, Es, hEx, hEs⟩ := rxLaw_run
  have hexec := rx_ex2_ok (xh := rxXh) (T := rxT) (mo := rxMo) rxCT_ok rxMo_ok f 12 176 rxMlaw true rxZ0 Es rfl hEx
  have hl := lv_entry [Value.ref (xa 0)] (n := 4) (by show 1 ≤ 4; decide)
  rw [lg_entry_eq]
  generalize (lg_sl [Value.ref (xa 0)] ++ List.replicate (4 - (lg_sl [Value.ref (xa 0)]).length) Slot.unset).toArray = ls at hl ⊢
  have hW : rx_W (f1, f2) vwCl (fun q => s.heap.size ≤ q) s xa 8 [] (rxR0 L xs) (fun _ => 0) s.heap s.heap [] :=
    ⟨[], [], hK, (fun k q h => by cases h), ⟨fun i j p q h => (by cases h), fun k q h => by cases h⟩, va_S.rf, rfl, fun k x h => by cases h⟩
  have hR0 : rx_R (f1, f2) vwCl (fun q => s.heap.size ≤ q) s xa 4 s.heap rxZ0 (rxR0 L xs) (fun _ => 0) s.heap [] ls :=
    ⟨rx_sat0 hL, fun f h => absurd h List.not_mem_nil, fun f h => absurd h List.not_mem_nil, hW, hl, fun q hq => by
      rw [List.mem_singleton.mp hq]
      exact (by decide : 0 < 8), fun v h => absurd h List.not_mem_nil⟩
  have hscr : rx_Scr true (fun q => s.heap.size ≤ q) s xa s.heap (rxR0 L xs) := fun _ => ⟨L, xs, hX, hbl, Nat.not_le.mpr hbl, rfl, fun j _ => by
    rw [Nat.add_comm]
    rfl⟩
  refine rx_goal rxGgood hPX rxFr_ok rxCr_ok rxAr_ok rxKc_ok rxAc_ok rxMl_ok rxCj_ok (hxh (f1, f2)) f 12 true rxMlaw rxZ0 Es hexec rfl hF (fun q h => h) rfl (by decide) (by decide) (by decide) (by decide) hscr hR0 ?_
  intro E hE r' ad' H' locs' ls' pc' k' n' hN hM hsr hsa hRE hS hk hn hrt
  have hv := hEs E hE
  rw [hv] at hrt ⊢
  have hst : (Option.toList (some (Sum.inr (0, (0, 1)) : rx_V))).map (rx_iv r' ad' xa) = [Value.int 1] := by
    show [rx_iv r' ad' xa (rx_n 1)] = _
    rw [rx_n_iv hRE.1]
    rfl
  rw [hst]
  exact va_forget hS.2.2 (W.widen hk hn (lw_ret hx hb hr hlk hrt.1))
