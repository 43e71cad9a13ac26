/-! WHAT IS NOT WALKED: Object's constructor, System.arraycopy and Arrays.fill over whole rows of ints, Math.min of known numbers, a text's constant and its length -/
def ry_x_init (d : Nat) (z : ry_Z) : Option (List ry_Z) := match ry_pr (ry_zst z) with
  | some (some _, t) => ry_if (decide (1 ≤ d) && decide (ry_cats t ≤ 8)) (some [ry_nx z 3 t])
  | _ => none
def ry_x_fill (d : Nat) (z : ry_Z) : Option (List ry_Z) := match ry_pi (ry_zst z) with
  | some (v, t) => match ry_pr t with
    | some (some k, t2) => match (z.2.2.1)[k]? with
      | some (.inr (tc, n, _, _)) => ry_if (tc == 0 && (decide (1 ≤ d) && (decide (ry_cats t2 ≤ 8) && decide (n < 2000000000)))) (some [ry_nxh ((z.2.2.1).set k (.inr (0, n, .inl (.inr (0, v)), []))) z 3 t2])
      | _ => none
    | _ => none
  | none => none
def ry_pt (z : ry_Z) (e : ry_E) : Option Int := match ry_bi z.1 e with
  | some (lo, hi) => if lo = hi then some lo else none
  | none => none
def ry_x_copy (d : Nat) (z : ry_Z) : Option (List ry_Z) := match ry_pi (ry_zst z) with
  | some (n, t) => match ry_pi t with
    | some (dp, t) => match ry_pr t with
      | some (some k1, t) => match ry_pi t with
        | some (sp, t) => match ry_pr t with
          | some (some k0, t) => match (z.2.2.1)[k0]?, (z.2.2.1)[k1]? with
            | some (.inr (tc0, n0, df, ov)), some (.inr (tc1, n1, _, _)) => ry_if (tc0 == 0 && (tc1 == 0 && (n0 == n1 && (ry_pt z n == some (n0 : Int) && (ry_pt z dp == some 0 && (ry_pt z sp == some 0 && (decide (1 ≤ d) && (decide (ry_cats t ≤ 8) && decide (n0 < 2000000000))))))))) (some [ry_nxh ((z.2.2.1).set k1 (.inr (0, n0, df, ov))) z 3 t])
            | _, _ => none
          | _ => none
        | none => none
      | _ => none
    | none => none
  | none => none
def ry_x_min (d : Nat) (z : ry_Z) : Option (List ry_Z) := match ry_pi (ry_zst z) with
  | some (b, t) => match ry_pi t with
    | some (a, t) => match ry_pt z a, ry_pt z b with
      | some x, some y => ry_if (decide (1 ≤ d) && decide (ry_cats t ≤ 8)) (some [ry_nx z 3 (ry_n (if x < y then x else y) :: t)])
      | _, _ => none
    | none => none
  | none => none
def ry_x_str (sl : Nat → Nat → Option Nat) (o idx : Nat) (z : ry_Z) : Option (List ry_Z) := match sl o idx with
  | some i => some [ry_nx z 2 (.inr (2, (0, (i : Int))) :: ry_zst z)]
  | none => none
def ry_x_slen (len : List Nat) (d : Nat) (z : ry_Z) : Option (List ry_Z) := match ry_zst z with
  | .inr (2, (_, i)) :: t => match len[i.toNat]? with
    | some n => ry_if (decide (1 ≤ i) && (decide (2 ≤ d) && decide (ry_cats t ≤ 8))) (some [ry_nx z 3 (ry_n (n : Int) :: t)])
    | none => none
  | _ => none
/-- the loop of image: the row goes into the images, at its place -/
def ry_isO (v : ry_X) : Option Nat := match v with
  | .inl (.inl (some b)) => some b
  | _ => none
def ry_is0 (v : ry_X) : Bool := match v with
  | .inl (.inr (0, (0, 0))) => true
  | _ => false
/-- the stack holds the loop's 0 alone -/
def ry_st0 (st : List ry_V) : Bool := match st with
  | [.inr (0, (0, 0))] => true
  | _ => false
def ry_objOf (ht : List ry_C) (k ci : Nat) : Option (List ry_X) := match ht[k]? with
  | some (.inl (c, fs)) => if c = ci then some fs else none
  | _ => none
def ry_rowOf (ht : List ry_C) (k tc n : Nat) : Option (ry_X × List (Nat × ry_V)) := match ht[k]? with
  | some (.inr (t, m, df, ov)) => if t = tc ∧ m = n then some (df, ov) else none
  | _ => none
def ry_x_image (z : ry_Z) : Option (List ry_Z) := match z with
  | (I, F, ht, c, s, _, lv, st) => match ry_lk lv 0, ry_lk lv 1, ry_lk lv 2 with
    | some (.inl (some k)), some (.inr (0, e)), some (.inr (0, (0, 0))) => match ry_objOf ht k 12, ry_bi I e with
      | some fs, some (lo, hi) => match (fs[3]?).bind ry_isO, (fs[4]?).bind ry_isO with
        | some b, some a => match ry_rowOf ht b 0 6180, ry_rowOf ht a 0 12360 with
          | some (db, ob), some (da, oa) =>
            ry_if (ry_st0 st && (ry_is0 db && (ry_is0 da && (oa.isEmpty && (decide (lo = hi) && (decide (0 ≤ lo) && (decide (lo ≤ 1) && ob.all (fun q => Nat.blt q.1 6180))))))))
              (some [(I, F, ht.set a (.inr (0, 12360, .inl (ry_n 0), ob.map (fun q => (6180 * lo.toNat + q.1, q.2)))), c, s, 54, (2, ry_n 6180) :: ry_del lv 2, [])])
          | _, _ => none
        | _, _ => none
      | _, _ => none
    | _, _, _ => none
abbrev ry_Im : Type := ry_Mt → Int → Nat → Bool
def ry_xm (M : ry_Mt) (z : ry_Z) : Bool := decide (z.2.2.2.1 ≤ M.2.2.2.2.2.2.1) && decide (z.2.2.2.2.1 ≤ M.2.2.2.2.2.2.2)
def ry_xh (xt sl : Nat → Nat → Option Nat) (len : List Nat) (im : ry_Im) : ry_Xh := fun d M i ln z => match i with
  | .ldc idx => ry_if (ln == 2) (ry_x_str sl M.1 idx z)
  | .sipush n => ry_if (ln == 3 && im M n (ry_zpc z)) (ry_x_image z)
  | .invokespecial idx => ry_if (ln == 3 && xt M.1 idx == some 10) (ry_x_init d z)
  | .invokestatic idx => ry_if (ln == 3) (match xt M.1 idx with
    | some 11 => ry_x_copy d z
    | some 12 => ry_if (ry_xm M z) (ry_x_fill d z)
    | some 13 => ry_if (ry_xm M z) (ry_x_min d z)
    | _ => none)
  | .invokevirtual idx => ry_if (ln == 3 && xt M.1 idx == some 14) (ry_if (ry_xm M z) (ry_x_slen len d z))
  | _ => none
