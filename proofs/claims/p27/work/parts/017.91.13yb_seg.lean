noncomputable def ry_sg (ct : Nat → Nat → Option ry_Ent) (cut : Nat → Bool) : Nat → Nat → Nat → ry_Z → Option (List ry_Z)
  | 0, _, _, _ => none
  | f + 1, d, j, (I, F, ht, c, s, pc, lv, st) => match cut pc with
    | true => some [(I, F, ht, c, s, pc, lv, st)]
    | false => match ct j pc with
      | none => none
      | some (.inl g) => match g d (I, F, ht, c, s, pc, lv, st) with
        | none => none
        | some zs => ry_bind (ry_sg ct cut f d j) zs
      | some (.inr (.inl _)) => none
      | some (.inr (.inr (j_p, M_p, g))) => match d with
        | 0 => none
        | d_p + 1 => match g (I, F, ht, c, s, pc, lv, st) with
          | none => none
          | some (as, t) => match ry_ex2 ct f d_p j_p (I, F, ht, 0, 0, 0, ry_largs 0 as, []) with
            | none => none
            | some Es => ry_bind (fun E => ry_sg ct cut f (d_p + 1) j (ry_back M_p (I, F, ht, c, s, pc, lv, st) t E)) Es
theorem ry_bind_mem {α β : Type} {g : α → Option (List β)} {l : List α} {ys : List β} (h : ry_bind g l = some ys) {a : α} (ha : a ∈ l) : ∃ xs, g a = some xs ∧ ∀ x ∈ xs, x ∈ ys := ry_bind_ok h a ha