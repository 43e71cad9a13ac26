/-! the places of a table hold, if those of its pieces do -/
def rx_chOK (xh : rx_Xh) (T : rx_Tb) (lw : Bool) (M : rx_Mt) : Nat → List (Option rx_Ent) → Prop
  | _, [] => True
  | b, none :: l => rx_chOK xh T lw M (b + 1) l
  | b, some e :: l => rx_entOK xh T lw M b e ∧ rx_chOK xh T lw M (b + 1) l
def rx_mcOK (xh : rx_Xh) (T : rx_Tb) (lw : Bool) (M : rx_Mt) : Nat → List (List (Option rx_Ent)) → Prop
  | _, [] => True
  | b, c :: l => rx_chOK xh T lw M b c ∧ rx_mcOK xh T lw M (b + 16) l
def rx_goOK (xh : rx_Xh) (T : rx_Tb) (mo : Nat → Option (rx_Mt × Bool)) : Nat → List (List (List (Option rx_Ent))) → Prop
  | _, [] => True
  | j, L :: l => (∀ M lw, mo j = some (M, lw) → rx_mcOK xh T lw M 0 L) ∧ rx_goOK xh T mo (j + 1) l
def rx_ggOK (xh : rx_Xh) (T : rx_Tb) (mo : Nat → Option (rx_Mt × Bool)) : Nat → List (List (List (List (Option rx_Ent)))) → Prop
  | _, [] => True
  | j, G :: l => rx_goOK xh T mo j G ∧ rx_ggOK xh T mo (j + 16) l
section RXF
variable {xh : rx_Xh} {T : rx_Tb} {lw : Bool} {M : rx_Mt} {mo : Nat → Option (rx_Mt × Bool)} {b : Nat}
theorem rx_ch_nil : rx_chOK xh T lw M b [] := trivial
theorem rx_ch_none {l : List (Option rx_Ent)} (h : rx_chOK xh T lw M (b + 1) l) : rx_chOK xh T lw M b (none :: l) := h
theorem rx_ch_some {e : rx_Ent} {l : List (Option rx_Ent)} (he : rx_entOK xh T lw M b e) (h : rx_chOK xh T lw M (b + 1) l) : rx_chOK xh T lw M b (some e :: l) := ⟨he, h⟩
theorem rx_mc_nil : rx_mcOK xh T lw M b [] := trivial
theorem rx_mc_cons {c : List (Option rx_Ent)} {l : List (List (Option rx_Ent))} (hc : rx_chOK xh T lw M b c) (h : rx_mcOK xh T lw M (b + 16) l) : rx_mcOK xh T lw M b (c :: l) := ⟨hc, h⟩
theorem rx_go_nil : rx_goOK xh T mo b [] := trivial
theorem rx_go_item {M0 : rx_Mt} {lw0 : Bool} {L : List (List (Option rx_Ent))} (h0 : mo b = some (M0, lw0)) (hm : rx_mcOK xh T lw0 M0 0 L) : ∀ M lw, mo b = some (M, lw) → rx_mcOK xh T lw M 0 L := by
  intro M lw h
  rw [h0] at h
  cases h
  exact hm
theorem rx_go_cons {L : List (List (Option rx_Ent))} {l : List (List (List (Option rx_Ent)))} (hc : ∀ M lw, mo b = some (M, lw) → rx_mcOK xh T lw M 0 L) (h : rx_goOK xh T mo (b + 1) l) : rx_goOK xh T mo b (L :: l) := ⟨hc, h⟩
theorem rx_gg_nil : rx_ggOK xh T mo b [] := trivial
theorem rx_gg_cons {G : List (List (List (Option rx_Ent)))} {l : List (List (List (List (Option rx_Ent))))} (hc : rx_goOK xh T mo b G) (h : rx_ggOK xh T mo (b + 16) l) : rx_ggOK xh T mo b (G :: l) := ⟨hc, h⟩
theorem rx_ch_at : ∀ {c : List (Option rx_Ent)} {b k : Nat} {e : rx_Ent}, rx_chOK xh T lw M b c → rx_nth c k = some (some e) → rx_entOK xh T lw M (b + k) e
  | [], _, _, _, _, h => by cases h
  | none :: l, b, 0, e, _, h => by cases h
  | some e0 :: l, b, 0, e, hc, h => by
    cases h
    exact hc.1
  | none :: l, b, k + 1, e, hc, h => by
    have := rx_ch_at (c := l) (b := b + 1) (k := k) (e := e) hc h
    rw [show b + 1 + k = b + (k + 1) by omega] at this
    exact this
  | some e0 :: l, b, k + 1, e, hc, h => by
    have := rx_ch_at (c := l) (b := b + 1) (k := k) (e := e) hc.2 h
    rw [show b + 1 + k = b + (k + 1) by omega] at this
    exact this
theorem rx_mc_at : ∀ {L : List (List (Option rx_Ent))} {b k : Nat} {c : List (Option rx_Ent)}, rx_mcOK xh T lw M b L → rx_nth L k = some c → rx_chOK xh T lw M (b + 16 * k) c
  | [], _, _, _, _, h => by cases h
  | c0 :: l, b, 0, c, hc, h => by
    cases h
    exact hc.1
  | c0 :: l, b, k + 1, c, hc, h => by
    have := rx_mc_at (L := l) (b := b + 16) (k := k) (c := c) hc.2 h
    rw [show b + 16 + 16 * k = b + 16 * (k + 1) by omega] at this
    exact this
theorem rx_go_at : ∀ {G : List (List (List (Option rx_Ent)))} {b k : Nat} {L : List (List (Option rx_Ent))}, rx_goOK xh T mo b G → rx_nth G k = some L → ∀ M lw, mo (b + k) = some (M, lw) → rx_mcOK xh T lw M 0 L
  | [], _, _, _, _, h => by cases h
  | c0 :: l, b, 0, c, hc, h => by
    cases h
    exact hc.1
  | c0 :: l, b, k + 1, c, hc, h => by
    have := rx_go_at (G := l) (b := b + 1) (k := k) (L := c) hc.2 h
    rw [show b + 1 + k = b + (k + 1) by omega] at this
    exact this
theorem rx_gg_at : ∀ {t : List (List (List (List (Option rx_Ent))))} {b k : Nat} {G : List (List (List (Option rx_Ent)))}, rx_ggOK xh T mo b t → rx_nth t k = some G → rx_goOK xh T mo (b + 16 * k) G
  | [], _, _, _, _, h => by cases h
  | c0 :: l, b, 0, c, hc, h => by
    cases h
    exact hc.1
  | c0 :: l, b, k + 1, c, hc, h => by
    have := rx_gg_at (t := l) (b := b + 16) (k := k) (G := c) hc.2 h
    rw [show b + 16 + 16 * k = b + 16 * (k + 1) by omega] at this
    exact this
theorem rx_fd_ok {t : List (List (List (List (Option rx_Ent))))} {j pc : Nat} {e : rx_Ent} (hg : rx_ggOK xh T mo 0 t) (hm : mo j = some (M, lw)) (h : rx_fd t j pc = some e) : rx_entOK xh T lw M pc e := by
  unfold rx_fd at h
  split at h
  · cases h
  · rename_i G hG
    split at h
    · cases h
    · rename_i L hL
      split at h
      · cases h
      · rename_i c hc
        split at h
        · rename_i e0 he
          cases h
          have h1 := rx_gg_at hg hG
          have ej : 0 + 16 * (Nat.div j 16) + Nat.mod j 16 = j := by
            have := Nat.div_add_mod j 16
            show 0 + 16 * (j / 16) + j % 16 = j
            omega
          have h2 := rx_go_at h1 hL M lw (by rw [ej]; exact hm)
          have h3 := rx_mc_at h2 hc
          have h4 := rx_ch_at h3 he
          have ep : 0 + 16 * (Nat.div pc 16) + Nat.mod pc 16 = pc := by
            have := Nat.div_add_mod pc 16
            show 0 + 16 * (pc / 16) + pc % 16 = pc
            omega
          rw [ep] at h4
          exact h4
        · cases h
end RXF
def rxMo (j : Nat) : Option (rx_Mt × Bool) := match rxMtF j with
  | some M => some (M, false)
  | none => match Nat.beq j 176 with
    | true => some (rxMlaw, true)
    | false => none
