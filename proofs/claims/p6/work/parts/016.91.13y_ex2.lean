/-! A REFLECTED MACHINE: the same runs, over a table of what each place of the code does -/
abbrev ry_Act : Type := Nat → ry_Z → Option (List ry_Z)
abbrev ry_Ent : Type := ry_Act ⊕ ((ry_Z → Option ry_End) ⊕ (Nat × ry_Mt × (ry_Z → Option (List ry_V × List ry_V))))
def ry_ex2 (ct : Nat → Nat → Option ry_Ent) : Nat → Nat → Nat → ry_Z → Option (List ry_End)
  | 0, _, _, _ => none
  | f + 1, d, j, (I, F, ht, c, s, pc, lv, st) => match ct j pc with
    | none => none
    | some (.inl g) => match g d (I, F, ht, c, s, pc, lv, st) with
      | none => none
      | some zs => ry_bind (ry_ex2 ct f d j) zs
    | some (.inr (.inl g)) => match g (I, F, ht, c, s, pc, lv, st) with
      | none => none
      | some E => some [E]
    | some (.inr (.inr (j_p, M_p, g))) => match d with
      | 0 => none
      | d' + 1 => match g (I, F, ht, c, s, pc, lv, st) with
        | none => none
        | some (as, t) => match ry_ex2 ct f d' j_p (I, F, ht, 0, 0, 0, ry_largs 0 as, []) with
          | none => none
          | some Es => ry_bind (fun E => ry_ex2 ct f (d' + 1) j (ry_back M_p (I, F, ht, c, s, pc, lv, st) t E)) Es
def ry_entOK (xh : ry_Xh) (T : ry_Tb) (lw : Bool) (M : ry_Mt) (pc : Nat) (e : ry_Ent) : Prop :=
  ∃ (i : Instr) (len : Nat), decode M.2.1 pc = .ok (i, len) ∧ match e with
    | .inl g => ∀ (d : Nat) (I : ry_I) (F : ry_F) (ht : List ry_C) (c s : Nat) (lv : List (Nat × ry_V)) (st : List ry_V), ry_retk M i len (I, F, ht, c, s, pc, lv, st) = none ∧
        ∀ zs, g d (I, F, ht, c, s, pc, lv, st) = some zs → ry_or (xh d M i len (I, F, ht, c, s, pc, lv, st)) (ry_step T lw M i len (decode M.2.1 (pc + 1)) (I, F, ht, c, s, pc, lv, st)) = some zs
    | .inr (.inl g) => ∀ (I : ry_I) (F : ry_F) (ht : List ry_C) (c s : Nat) (lv : List (Nat × ry_V)) (st : List ry_V) (E : ry_End), g (I, F, ht, c, s, pc, lv, st) = some E → ry_retk M i len (I, F, ht, c, s, pc, lv, st) = some E
    | .inr (.inr (j_p, M_p, g)) => T.2.2.2.2.2 j_p = some M_p ∧ ∀ (d : Nat) (I : ry_I) (F : ry_F) (ht : List ry_C) (c s : Nat) (lv : List (Nat × ry_V)) (st : List ry_V), ry_retk M i len (I, F, ht, c, s, pc, lv, st) = none ∧
        ry_or (xh d M i len (I, F, ht, c, s, pc, lv, st)) (ry_step T lw M i len (decode M.2.1 (pc + 1)) (I, F, ht, c, s, pc, lv, st)) = none ∧
        ∀ as t, g (I, F, ht, c, s, pc, lv, st) = some (as, t) → ∃ q, ry_prep T M i len (I, F, ht, c, s, pc, lv, st) = some (q, M_p, as, t)
theorem ry_ex2_ok {xh : ry_Xh} {T : ry_Tb} {ct : Nat → Nat → Option ry_Ent} {mo : Nat → Option (ry_Mt × Bool)} (hct : ∀ j M lw pc e, mo j = some (M, lw) → ct j pc = some e → ry_entOK xh T lw M pc e) (hmo : ∀ j M, T.2.2.2.2.2 j = some M → mo j = some (M, false)) :
    ∀ (f d j : Nat) (M : ry_Mt) (lw : Bool) (z : ry_Z) (Es : List ry_End), mo j = some (M, lw) → ry_ex2 ct f d j z = some Es → ry_exec xh T f d lw M z = some Es := by
  intro f
  induction f with
  | zero =>
    intro d j M lw z Es _ h
    exact absurd (show (none : Option (List ry_End)) = some Es from h) (fun q => by cases q)
  | succ f ih =>
    intro d j M lw z Es hM h
    obtain ⟨I, F, ht, c, s, pc, lv, st⟩ := z
    rw [ry_ex2] at h
    rw [ry_exec]
    have hb : ∀ {α : Type} (zs : List α) (g1 g2 : α → Option (List ry_End)) (Es : List ry_End), (∀ a Es, g1 a = some Es → g2 a = some Es) → ry_bind g1 zs = some Es → ry_bind g2 zs = some Es := by
      intro α zs g1 g2 Es hg
      induction zs generalizing Es with
      | nil => exact fun h => h
      | cons a l ihl =>
        intro h
        rw [ry_bind] at h ⊢
        split at h
        · cases h
        · rename_i x hx
          split at h
          · cases h
          · rename_i y hy
            rw [hg a x hx, ihl y hy]
            exact h
    split at h
    · cases h
    · rename_i g hg
      obtain ⟨i, len, hd, hk⟩ := hct j M lw pc _ hM hg
      have hk := hk d I F ht c s lv st
      have hd2 : decode M.2.1 (ry_zpc (I, F, ht, c, s, pc, lv, st)) = .ok (i, len) := hd
      rw [hd2]
      dsimp only
      rw [hk.1]
      split at h
      · cases h
      · rename_i zs hzs
        have h3 := hk.2 zs hzs
        have h4 : ry_or (xh d M i len (I, F, ht, c, s, pc, lv, st)) (ry_step T lw M i len (decode M.2.1 (ry_zpc (I, F, ht, c, s, pc, lv, st) + 1)) (I, F, ht, c, s, pc, lv, st)) = some zs := h3
        dsimp only
        rw [h4]
        exact hb zs _ _ Es (fun a Es' h => ih d j M lw a Es' hM h) h
    · rename_i g hg
      obtain ⟨i, len, hd, hk⟩ := hct j M lw pc _ hM hg
      have hk := hk I F ht c s lv st
      have hd2 : decode M.2.1 (ry_zpc (I, F, ht, c, s, pc, lv, st)) = .ok (i, len) := hd
      rw [hd2]
      split at h
      · cases h
      · rename_i E hE
        dsimp only
        rw [hk E hE]
        exact h
    · rename_i j_p M_p g hg
      obtain ⟨i, len, hd, hj, hk⟩ := hct j M lw pc _ hM hg
      have hk := hk d I F ht c s lv st
      have hd2 : decode M.2.1 (ry_zpc (I, F, ht, c, s, pc, lv, st)) = .ok (i, len) := hd
      rw [hd2]
      dsimp only
      rw [hk.1]
      have h4 : ry_or (xh d M i len (I, F, ht, c, s, pc, lv, st)) (ry_step T lw M i len (decode M.2.1 (ry_zpc (I, F, ht, c, s, pc, lv, st) + 1)) (I, F, ht, c, s, pc, lv, st)) = none := hk.2.1
      dsimp only
      rw [h4]
      dsimp only
      cases d with
      | zero => cases h
      | succ d' =>
        dsimp only at h ⊢
        split at h
        · cases h
        · rename_i as t hast
          obtain ⟨q, hq⟩ := hk.2.2 as t hast
          rw [hq]
          dsimp only
          split at h
          · cases h
          · rename_i Es' hEs'
            have h5 := ih d' j_p M_p false _ Es' (hmo j_p M_p hj) hEs'
            have h6 : ry_exec xh T f d' false M_p (ry_z0 (I, F, ht, c, s, pc, lv, st) as) = some Es' := h5
            rw [h6]
            dsimp only
            exact hb Es' _ _ Es (fun a Es'' h => ih (d' + 1) j M lw _ Es'' hM h) h
