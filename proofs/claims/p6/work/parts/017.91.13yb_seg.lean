/-! A REFLECTED MACHINE: a run in pieces -/
theorem ry_bind_hom {α β : Type} {g1 g2 : α → Option (List β)} : ∀ {zs : List α} {Es : List β}, (∀ a Es, g1 a = some Es → g2 a = some Es) → ry_bind g1 zs = some Es → ry_bind g2 zs = some Es
  | [], _, _, h => h
  | a :: l, Es, hg, h => by
    rw [ry_bind] at h ⊢
    split at h
    · cases h
    · rename_i x hx
      split at h
      · cases h
      · rename_i y hy
        rw [hg a x hx, ry_bind_hom hg hy]
        exact h
theorem ry_ex2_succ {ct : Nat → Nat → Option ry_Ent} : ∀ (f d j : Nat) (z : ry_Z) (Es : List ry_End), ry_ex2 ct f d j z = some Es → ry_ex2 ct (f + 1) d j z = some Es := by
  intro f
  induction f with
  | zero =>
    intro d j z Es h
    exact absurd (show (none : Option (List ry_End)) = some Es from h) (fun q => by cases q)
  | succ f ih =>
    intro d j z Es h
    obtain ⟨I, F, ht, c, s, pc, lv, st⟩ := z
    rw [ry_ex2] at h ⊢
    split at h
    · cases h
    · split at h
      · cases h
      · exact ry_bind_hom (fun a Es' h => ih d j a Es' h) h
    · exact h
    · cases d with
      | zero => cases h
      | succ d' =>
        dsimp only at h ⊢
        split at h
        · cases h
        · split at h
          · cases h
          · rename_i Es' hEs'
            rw [ih d' _ _ Es' hEs']
            exact ry_bind_hom (fun a Es'' h => ih (d' + 1) j _ Es'' h) h
theorem ry_ex2_mono {ct : Nat → Nat → Option ry_Ent} {d j : Nat} {z : ry_Z} {Es : List ry_End} (f : Nat) : ∀ g, f ≤ g → ry_ex2 ct f d j z = some Es → ry_ex2 ct g d j z = some Es := by
  intro g hg h
  induction hg with
  | refl => exact h
  | step _ ih => exact ry_ex2_succ _ d j z Es ih
/-- every end of a run keeps P -/
def ry_ru (ct : Nat → Nat → Option ry_Ent) (d j : Nat) (P : ry_End → Prop) (z : ry_Z) : Prop := ∃ (f : Nat) (Es : List ry_End), ry_ex2 ct f d j z = some Es ∧ ∀ E ∈ Es, P E
theorem ry_ru_bind {ct : Nat → Nat → Option ry_Ent} {d j : Nat} {P : ry_End → Prop} : ∀ (zs : List ry_Z), (∀ z ∈ zs, ry_ru ct d j P z) → ∃ (f : Nat) (Es : List ry_End), ry_bind (ry_ex2 ct f d j) zs = some Es ∧ ∀ E ∈ Es, P E
  | [], _ => ⟨0, [], rfl, fun E h => absurd h List.not_mem_nil⟩
  | z :: zs, h => by
    obtain ⟨f1, Es1, h1, p1⟩ := h z List.mem_cons_self
    obtain ⟨f2, Es2, h2, p2⟩ := ry_ru_bind zs (fun w hw => h w (List.mem_cons_of_mem _ hw))
    refine ⟨max f1 f2, Es1 ++ Es2, ?_, fun E hE => ?_⟩
    · rw [ry_bind, ry_ex2_mono f1 _ (Nat.le_max_left _ _) h1, ry_bind_hom (fun a Es h => ry_ex2_mono f2 _ (Nat.le_max_right f1 f2) h) h2]
    · rcases List.mem_append.mp hE with h | h
      · exact p1 E h
      · exact p2 E h
/-- from a state to where the cut says; no end on the way -/
def ry_sg (ct : Nat → Nat → Option ry_Ent) (cut : Nat → Bool) : Nat → Nat → Nat → ry_Z → Option (List ry_Z)
  | 0, _, _, _ => none
  | f + 1, d, j, (I, F, ht, c, s, pc, lv, st) => match cut pc with
    | true => some [(I, F, ht, c, s, pc, lv, st)]
    | false => match ct j pc with
      | none => none
      | some (.inl g) => match g d (I, F, ht, c, s, pc, lv, st) with
        | none => none
        | some zs => ry_bind (ry_sg ct cut f d j) zs
      | some (.inr (.inl _)) => none
      | some (.inr (.inr (j_p, M_p, g))) => match d with
        | 0 => none
        | d' + 1 => match g (I, F, ht, c, s, pc, lv, st) with
          | none => none
          | some (as, t) => match ry_ex2 ct f d' j_p (I, F, ht, 0, 0, 0, ry_largs 0 as, []) with
            | none => none
            | some Es => ry_bind (fun E => ry_sg ct cut f (d' + 1) j (ry_back M_p (I, F, ht, c, s, pc, lv, st) t E)) Es
theorem ry_bind_mem {α β : Type} {g : α → Option (List β)} {l : List α} {ys : List β} (h : ry_bind g l = some ys) {a : α} (ha : a ∈ l) : ∃ xs, g a = some xs ∧ ∀ x ∈ xs, x ∈ ys := ry_bind_ok h a ha
theorem ry_ru_bindE {ct : Nat → Nat → Option ry_Ent} {d j : Nat} {P : ry_End → Prop} {k : ry_End → ry_Z} (Es : List ry_End) (h : ∀ E ∈ Es, ry_ru ct d j P (k E)) : ∃ (f : Nat) (Es2 : List ry_End), ry_bind (fun E => ry_ex2 ct f d j (k E)) Es = some Es2 ∧ ∀ E ∈ Es2, P E := by
  induction Es with
  | nil => exact ⟨0, [], rfl, fun E h => absurd h List.not_mem_nil⟩
  | cons z zs ih =>
    obtain ⟨f1, Es1, h1, p1⟩ := h z List.mem_cons_self
    obtain ⟨f2, Es2, h2, p2⟩ := ih (fun w hw => h w (List.mem_cons_of_mem _ hw))
    refine ⟨max f1 f2, Es1 ++ Es2, ?_, fun E hE => ?_⟩
    · rw [ry_bind, ry_ex2_mono f1 _ (Nat.le_max_left _ _) h1, ry_bind_hom (fun a Es h => ry_ex2_mono f2 _ (Nat.le_max_right f1 f2) h) h2]
    · rcases List.mem_append.mp hE with h | h
      · exact p1 E h
      · exact p2 E h
theorem ry_sg_ok {ct : Nat → Nat → Option ry_Ent} {cut : Nat → Bool} {P : ry_End → Prop} : ∀ (f d j : Nat) (z : ry_Z) (zs : List ry_Z), ry_sg ct cut f d j z = some zs → (∀ z_p ∈ zs, ry_ru ct d j P z_p) → ry_ru ct d j P z := by
  intro f
  induction f with
  | zero =>
    intro d j z zs h
    exact absurd (show (none : Option (List ry_Z)) = some zs from h) (fun q => by cases q)
  | succ f ih =>
    intro d j z zs h hz
    obtain ⟨I, F, ht, c, s, pc, lv, st⟩ := z
    rw [ry_sg] at h
    split at h
    · cases h
      exact hz _ List.mem_cons_self
    · split at h
      · cases h
      · rename_i g hg
        split at h
        · cases h
        · rename_i zs1 hzs1
          have h1 : ∀ z_p ∈ zs1, ry_ru ct d j P z_p := fun z_p hz' => by
            obtain ⟨xs, h2, h3⟩ := ry_bind_mem h hz'
            exact ih d j z_p xs h2 fun w hw => hz w (h3 w hw)
          obtain ⟨f1, Es, h4, h5⟩ := ry_ru_bind zs1 h1
          refine ⟨f1 + 1, Es, ?_, h5⟩
          rw [ry_ex2, hg]
          dsimp only
          rw [hzs1]
          exact h4
      · cases h
      · rename_i j_p M_p g hg
        cases d with
        | zero => cases h
        | succ d' =>
          dsimp only at h
          split at h
          · cases h
          · rename_i as t hast
            split at h
            · cases h
            · rename_i Es' hEs'
              have h1 : ∀ E ∈ Es', ry_ru ct (d' + 1) j P (ry_back M_p (I, F, ht, c, s, pc, lv, st) t E) := fun E hE => by
                obtain ⟨xs, h2, h3⟩ := ry_bind_mem h hE
                exact ih (d' + 1) j _ xs h2 fun w hw => hz w (h3 w hw)
              obtain ⟨f1, Es, h4, h5⟩ := ry_ru_bindE Es' h1
              refine ⟨max f f1 + 1, Es, ?_, h5⟩
              rw [ry_ex2, hg]
              dsimp only
              rw [hast]
              dsimp only
              rw [ry_ex2_mono f _ (Nat.le_max_left f f1) hEs']
              exact ry_bind_hom (fun a Es'' h => ry_ex2_mono f1 _ (Nat.le_max_right f f1) h) h4
