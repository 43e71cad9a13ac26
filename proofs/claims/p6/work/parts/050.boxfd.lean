/-! THE BOX MACHINE: places of tables, contracts by quick runs -/
def rx_nth {α : Type} : List α → Nat → Option α
  | [], _ => none
  | a :: l, n => match n with
    | 0 => some a
    | m + 1 => rx_nth l m
def rx_fd (t : List (List (List (List (Option rx_Ent))))) (j pc : Nat) : Option rx_Ent := match rx_nth t (Nat.div j 16) with
  | none => none
  | some t => match rx_nth t (Nat.mod j 16) with
    | none => none
    | some t => match rx_nth t (Nat.div pc 16) with
      | none => none
      | some t => match rx_nth t (Nat.mod pc 16) with
        | some (some e) => some e
        | _ => none
/-! the places of a table hold, if those of its pieces do -/
def rx_chOK (B : bx_B) (xh : rx_Xh) (T : rx_Tb) (M : rx_Mt) : Nat → List (Option rx_Ent) → Prop
  | _, [] => True
  | b, none :: l => rx_chOK B xh T M (b + 1) l
  | b, some e :: l => rx_entOK B xh T M b e ∧ rx_chOK B xh T M (b + 1) l
def rx_mcOK (B : bx_B) (xh : rx_Xh) (T : rx_Tb) (M : rx_Mt) : Nat → List (List (Option rx_Ent)) → Prop
  | _, [] => True
  | b, c :: l => rx_chOK B xh T M b c ∧ rx_mcOK B xh T M (b + 16) l
def rx_goOK (B : bx_B) (xh : rx_Xh) (T : rx_Tb)  : Nat → List (List (List (Option rx_Ent))) → Prop
  | _, [] => True
  | j, L :: l => (∀ M, T.2.2.2.2.2 j = some M → rx_mcOK B xh T M 0 L) ∧ rx_goOK B xh T (j + 1) l
def rx_ggOK (B : bx_B) (xh : rx_Xh) (T : rx_Tb)  : Nat → List (List (List (List (Option rx_Ent)))) → Prop
  | _, [] => True
  | j, G :: l => rx_goOK B xh T j G ∧ rx_ggOK B xh T (j + 16) l
section RXF
variable {B : bx_B} {xh : rx_Xh} {T : rx_Tb} {M : rx_Mt} {b : Nat}
theorem rx_ch_nil : rx_chOK B xh T M b [] := trivial
theorem rx_ch_none {l : List (Option rx_Ent)} (h : rx_chOK B xh T M (b + 1) l) : rx_chOK B xh T M b (none :: l) := h
theorem rx_ch_some {e : rx_Ent} {l : List (Option rx_Ent)} (he : rx_entOK B xh T M b e) (h : rx_chOK B xh T M (b + 1) l) : rx_chOK B xh T M b (some e :: l) := ⟨he, h⟩
theorem rx_mc_nil : rx_mcOK B xh T M b [] := trivial
theorem rx_mc_cons {c : List (Option rx_Ent)} {l : List (List (Option rx_Ent))} (hc : rx_chOK B xh T M b c) (h : rx_mcOK B xh T M (b + 16) l) : rx_mcOK B xh T M b (c :: l) := ⟨hc, h⟩
theorem rx_go_nil : rx_goOK B xh T b [] := trivial
theorem rx_go_item {M0 : rx_Mt} {L : List (List (Option rx_Ent))} (h0 : T.2.2.2.2.2 b = some M0) (hm : rx_mcOK B xh T M0 0 L) : ∀ M, T.2.2.2.2.2 b = some M → rx_mcOK B xh T M 0 L := by
  intro M h
  rw [h0] at h
  cases h
  exact hm
theorem rx_go_cons {L : List (List (Option rx_Ent))} {l : List (List (List (Option rx_Ent)))} (hc : ∀ M, T.2.2.2.2.2 b = some M → rx_mcOK B xh T M 0 L) (h : rx_goOK B xh T (b + 1) l) : rx_goOK B xh T b (L :: l) := ⟨hc, h⟩
theorem rx_gg_nil : rx_ggOK B xh T b [] := trivial
theorem rx_gg_cons {G : List (List (List (Option rx_Ent)))} {l : List (List (List (List (Option rx_Ent))))} (hc : rx_goOK B xh T b G) (h : rx_ggOK B xh T (b + 16) l) : rx_ggOK B xh T b (G :: l) := ⟨hc, h⟩
theorem rx_ch_at : ∀ {c : List (Option rx_Ent)} {b k : Nat} {e : rx_Ent}, rx_chOK B xh T M b c → rx_nth c k = some (some e) → rx_entOK B xh T M (b + k) e
  | [], _, _, _, _, h => by cases h
  | none :: l, b, 0, e, _, h => by cases h
  | some e0 :: l, b, 0, e, hc, h => by
    cases h
    exact hc.1
  | none :: l, b, k + 1, e, hc, h => by
    have := rx_ch_at (c := l) (b := b + 1) (k := k) (e := e) hc h
    rw [show b + 1 + k = b + (k + 1) by omega] at this
    exact this
  | some e0 :: l, b, k + 1, e, hc, h => by
    have := rx_ch_at (c := l) (b := b + 1) (k := k) (e := e) hc.2 h
    rw [show b + 1 + k = b + (k + 1) by omega] at this
    exact this
theorem rx_mc_at : ∀ {L : List (List (Option rx_Ent))} {b k : Nat} {c : List (Option rx_Ent)}, rx_mcOK B xh T M b L → rx_nth L k = some c → rx_chOK B xh T M (b + 16 * k) c
  | [], _, _, _, _, h => by cases h
  | c0 :: l, b, 0, c, hc, h => by
    cases h
    exact hc.1
  | c0 :: l, b, k + 1, c, hc, h => by
    have := rx_mc_at (L := l) (b := b + 16) (k := k) (c := c) hc.2 h
    rw [show b + 16 + 16 * k = b + 16 * (k + 1) by omega] at this
    exact this
theorem rx_go_at : ∀ {G : List (List (List (Option rx_Ent)))} {b k : Nat} {L : List (List (Option rx_Ent))}, rx_goOK B xh T b G → rx_nth G k = some L → ∀ M, T.2.2.2.2.2 (b + k) = some M → rx_mcOK B xh T M 0 L
  | [], _, _, _, _, h => by cases h
  | c0 :: l, b, 0, c, hc, h => by
    cases h
    exact hc.1
  | c0 :: l, b, k + 1, c, hc, h => by
    have := rx_go_at (G := l) (b := b + 1) (k := k) (L := c) hc.2 h
    rw [show b + 1 + k = b + (k + 1) by omega] at this
    exact this
theorem rx_gg_at : ∀ {t : List (List (List (List (Option rx_Ent))))} {b k : Nat} {G : List (List (List (Option rx_Ent)))}, rx_ggOK B xh T b t → rx_nth t k = some G → rx_goOK B xh T (b + 16 * k) G
  | [], _, _, _, _, h => by cases h
  | c0 :: l, b, 0, c, hc, h => by
    cases h
    exact hc.1
  | c0 :: l, b, k + 1, c, hc, h => by
    have := rx_gg_at (t := l) (b := b + 16) (k := k) (G := c) hc.2 h
    rw [show b + 16 + 16 * k = b + 16 * (k + 1) by omega] at this
    exact this
theorem rx_fd_ok {t : List (List (List (List (Option rx_Ent))))} {j pc : Nat} {e : rx_Ent} (hg : rx_ggOK B xh T 0 t) (hm : T.2.2.2.2.2 j = some M) (h : rx_fd t j pc = some e) : rx_entOK B xh T M pc e := by
  unfold rx_fd at h
  split at h
  · cases h
  · rename_i G hG
    split at h
    · cases h
    · rename_i L hL
      split at h
      · cases h
      · rename_i c hc
        split at h
        · rename_i e0 he
          cases h
          have h1 := rx_gg_at hg hG
          have ej : 0 + 16 * (Nat.div j 16) + Nat.mod j 16 = j := by
            have := Nat.div_add_mod j 16
            show 0 + 16 * (j / 16) + j % 16 = j
            omega
          have h2 := rx_go_at h1 hL M (by rw [ej]; exact hm)
          have h3 := rx_mc_at h2 hc
          have h4 := rx_ch_at h3 he
          have ep : 0 + 16 * (Nat.div pc 16) + Nat.mod pc 16 = pc := by
            have := Nat.div_add_mod pc 16
            show 0 + 16 * (pc / 16) + pc % 16 = pc
            omega
          rw [ep] at h4
          exact h4
        · cases h
end RXF
/-- a method keeps its contract: by quick runs -/
def bx_chk2 (B : bx_B) (cx : Nat → Nat → Option rx_Ent) (mk : rx_Z → rx_Z → List rx_E) (f j : Nat) (M : rx_Mt) (ct : bx_Ct) (tab : bx_tab) : Bool := match bx_ent0 B.2.1 ct.1 bx_I0 [] with
  | some (I0, ht0, as) => match bx_ent1 B ct.2.2.2.2 I0 ht0 with
    | some (I, ht) => decide (rx_cats as ≤ M.2.2.1) && (!(bx_lg B.2.2.2) && bx_okO (bx_fE B.2.2.1 ct.2.1) (rx_ex2 cx (bx_cut B.2.2.1 mk tab none) f ct.2.2.2.1 j (I, [], ht, 0, 0, 0, rx_largs 0 as, [])) &&
      tab.all (fun q => q.2.all (fun c => decide (c.2.1.1 < q.1.1.length)) && bx_okO (bx_fE B.2.2.1 ct.2.1) (rx_ex2 cx (bx_cut B.2.2.1 mk tab (some q.2)) f ct.2.2.2.1 j q.1)))
    | none => false
  | none => false
theorem bx_okO_mono {fE : rx_End → Bool} {o1 o2 : Option (List rx_End)} (h : ∀ Es, o1 = some Es → o2 = some Es) (h1 : bx_okO fE o1 = true) : bx_okO fE o2 = true := by
  obtain ⟨Es, h2, h3⟩ := bx_okO_ok h1
  rw [h Es h2]
  exact h3
theorem bx_chk2_ok {B : bx_B} {xh : rx_Xh} {T : rx_Tb} {cx : Nat → Nat → Option rx_Ent} {mk : rx_Z → rx_Z → List rx_E} {f j : Nat} {M : rx_Mt} {ct : bx_Ct} {tab : bx_tab} (hct : ∀ j M pc e, T.2.2.2.2.2 j = some M → cx j pc = some e → rx_entOK B xh T M pc e) (hj : T.2.2.2.2.2 j = some M) (h : bx_chk2 B cx mk f j M ct tab = true) : bx_chk B xh T mk f M ct tab = true := by
  unfold bx_chk2 at h
  unfold bx_chk
  split at h
  · rename_i I0 ht0 as hent
    rw [hent]
    dsimp only
    split at h
    · rename_i I ht hen1
      rw [hen1]
      dsimp only
      rw [Bool.and_eq_true, Bool.and_eq_true, Bool.and_eq_true] at h ⊢
      obtain ⟨h1, ⟨h5, h2⟩, h3⟩ := h
      refine ⟨h1, ⟨h5, bx_okO_mono (fun Es hE => rx_ex2_ok hct _ _ _ _ _ _ _ hj hE) h2⟩, List.all_eq_true.mpr fun q hq => ?_⟩
      have h4 := List.all_eq_true.mp h3 q hq
      rw [Bool.and_eq_true] at h4 ⊢
      exact ⟨h4.1, bx_okO_mono (fun Es hE => rx_ex2_ok hct _ _ _ _ _ _ _ hj hE) h4.2⟩
    · exact absurd h Bool.false_ne_true
  · exact absurd h Bool.false_ne_true
