/-! THE BOX MACHINE: the same runs, over a table of what each place of the code does -/
abbrev rx_Act : Type := Nat → rx_Z → Option (List rx_Z)
abbrev rx_Ent : Type := rx_Act ⊕ ((rx_Z → Option rx_End) ⊕ (Nat × rx_Mt × (rx_Z → Option (List rx_V × List rx_V))))
def rx_ex2 (ct : Nat → Nat → Option rx_Ent) : (rx_Z → Bool) → Nat → Nat → Nat → rx_Z → Option (List rx_End)
  | _, 0, _, _, _ => none
  | cut, f + 1, d, j, (I, F, ht, c, s, pc, lv, st) => match ct j pc with
    | none => none
    | some (.inl g) => match g d (I, F, ht, c, s, pc, lv, st) with
      | none => none
      | some zs => rx_bind (fun z_p => match cut z_p with
        | true => some []
        | false => rx_ex2 ct cut f d j z_p) zs
    | some (.inr (.inl g)) => match g (I, F, ht, c, s, pc, lv, st) with
      | none => none
      | some E => some [E]
    | some (.inr (.inr (j_p, M_p, g))) => match d with
      | 0 => none
      | d' + 1 => match g (I, F, ht, c, s, pc, lv, st) with
        | none => none
        | some (as, t) => match rx_ex2 ct (fun _ => false) f d' j_p (I, F, ht, 0, 0, 0, rx_largs 0 as, []) with
          | none => none
          | some Es => rx_bind (fun E => rx_ex2 ct cut f (d' + 1) j (rx_back M_p (I, F, ht, c, s, pc, lv, st) t E)) Es
def rx_entOK (B : bx_B) (xh : rx_Xh) (T : rx_Tb) (M : rx_Mt) (pc : Nat) (e : rx_Ent) : Prop :=
  ∃ (i : Instr) (len : Nat), decode M.2.1 pc = .ok (i, len) ∧ match e with
    | .inl g => ∀ (d : Nat) (I : rx_I) (F : rx_F) (ht : List rx_C) (c s : Nat) (lv : List (Nat × rx_V)) (st : List rx_V), rx_retk M i len (I, F, ht, c, s, pc, lv, st) = none ∧
        ∀ zs, g d (I, F, ht, c, s, pc, lv, st) = some zs → rx_or (xh d M i len (I, F, ht, c, s, pc, lv, st)) (rx_step B T M i len (decode M.2.1 (pc + 1)) (I, F, ht, c, s, pc, lv, st)) = some zs
    | .inr (.inl g) => ∀ (I : rx_I) (F : rx_F) (ht : List rx_C) (c s : Nat) (lv : List (Nat × rx_V)) (st : List rx_V) (E : rx_End), g (I, F, ht, c, s, pc, lv, st) = some E → rx_retk M i len (I, F, ht, c, s, pc, lv, st) = some E
    | .inr (.inr (j_p, M_p, g)) => T.2.2.2.2.2 j_p = some M_p ∧ ∀ (d : Nat) (I : rx_I) (F : rx_F) (ht : List rx_C) (c s : Nat) (lv : List (Nat × rx_V)) (st : List rx_V), rx_retk M i len (I, F, ht, c, s, pc, lv, st) = none ∧
        rx_or (xh d M i len (I, F, ht, c, s, pc, lv, st)) (rx_step B T M i len (decode M.2.1 (pc + 1)) (I, F, ht, c, s, pc, lv, st)) = none ∧
        ∀ as t, g (I, F, ht, c, s, pc, lv, st) = some (as, t) → ∃ q, rx_prep B T M i len (I, F, ht, c, s, pc, lv, st) = some (q, M_p, as, t)
theorem rx_ex2_ok {B : bx_B} {xh : rx_Xh} {T : rx_Tb} {ct : Nat → Nat → Option rx_Ent} (hct : ∀ j M pc e, T.2.2.2.2.2 j = some M → ct j pc = some e → rx_entOK B xh T M pc e) :
    ∀ (f d j : Nat) (cut : rx_Z → Bool) (M : rx_Mt) (z : rx_Z) (Es : List rx_End), T.2.2.2.2.2 j = some M → rx_ex2 ct cut f d j z = some Es → rx_exec B xh T cut f d M z = some Es := by
  intro f
  induction f with
  | zero =>
    intro d j cut M z Es _ h
    exact absurd (show (none : Option (List rx_End)) = some Es from h) (fun q => by cases q)
  | succ f ih =>
    intro d j cut M z Es hM h
    obtain ⟨I, F, ht, c, s, pc, lv, st⟩ := z
    rw [rx_ex2] at h
    rw [rx_exec]
    have hb : ∀ {α : Type} (zs : List α) (g1 g2 : α → Option (List rx_End)) (Es : List rx_End), (∀ a Es, g1 a = some Es → g2 a = some Es) → rx_bind g1 zs = some Es → rx_bind g2 zs = some Es := by
      intro α zs g1 g2 Es hg
      induction zs generalizing Es with
      | nil => exact fun h => h
      | cons a l ihl =>
        intro h
        rw [rx_bind] at h ⊢
        split at h
        · cases h
        · rename_i x hx
          split at h
          · cases h
          · rename_i y hy
            rw [hg a x hx, ihl y hy]
            exact h
    split at h
    · cases h
    · rename_i g hg
      obtain ⟨i, len, hd, hk⟩ := hct j M pc _ hM hg
      have hk := hk d I F ht c s lv st
      have hd2 : decode M.2.1 (rx_zpc (I, F, ht, c, s, pc, lv, st)) = .ok (i, len) := hd
      rw [hd2]
      dsimp only
      rw [hk.1]
      split at h
      · cases h
      · rename_i zs hzs
        have h3 := hk.2 zs hzs
        have h4 : rx_or (xh d M i len (I, F, ht, c, s, pc, lv, st)) (rx_step B T M i len (decode M.2.1 (rx_zpc (I, F, ht, c, s, pc, lv, st) + 1)) (I, F, ht, c, s, pc, lv, st)) = some zs := h3
        dsimp only
        rw [h4]
        refine hb zs _ _ Es (fun a Es' h => ?_) h
        cases hcut : cut a with
        | true =>
          rw [hcut] at h
          rw [if_pos rfl]
          exact h
        | false =>
          rw [hcut] at h
          rw [if_neg Bool.false_ne_true]
          exact ih d j cut M a Es' hM h
    · rename_i g hg
      obtain ⟨i, len, hd, hk⟩ := hct j M pc _ hM hg
      have hk := hk I F ht c s lv st
      have hd2 : decode M.2.1 (rx_zpc (I, F, ht, c, s, pc, lv, st)) = .ok (i, len) := hd
      rw [hd2]
      split at h
      · cases h
      · rename_i E hE
        dsimp only
        rw [hk E hE]
        exact h
    · rename_i j_p M_p g hg
      obtain ⟨i, len, hd, hj, hk⟩ := hct j M pc _ hM hg
      have hk := hk d I F ht c s lv st
      have hd2 : decode M.2.1 (rx_zpc (I, F, ht, c, s, pc, lv, st)) = .ok (i, len) := hd
      rw [hd2]
      dsimp only
      rw [hk.1]
      have h4 : rx_or (xh d M i len (I, F, ht, c, s, pc, lv, st)) (rx_step B T M i len (decode M.2.1 (rx_zpc (I, F, ht, c, s, pc, lv, st) + 1)) (I, F, ht, c, s, pc, lv, st)) = none := hk.2.1
      dsimp only
      rw [h4]
      dsimp only
      cases d with
      | zero => cases h
      | succ d' =>
        dsimp only at h ⊢
        split at h
        · cases h
        · rename_i as t hast
          obtain ⟨q, hq⟩ := hk.2.2 as t hast
          rw [hq]
          dsimp only
          split at h
          · cases h
          · rename_i Es' hEs'
            have h5 := ih d' j_p (fun _ => false) M_p _ Es' hj hEs'
            have h6 : rx_exec B xh T (fun _ => false) f d' M_p (rx_z0 (I, F, ht, c, s, pc, lv, st) as) = some Es' := h5
            rw [h6]
            dsimp only
            exact hb Es' _ _ Es (fun a Es'' h => ih (d' + 1) j cut M _ Es'' hM h) h
