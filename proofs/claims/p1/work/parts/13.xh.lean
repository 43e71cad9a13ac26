/-! WHAT IS NOT WALKED: Object's constructor, System.arraycopy and Arrays.fill over whole rows of ints, Math.min of known numbers, a text's constant and its length -/
def rx_x_init (d : Nat) (z : rx_Z) : Option (List rx_Z) := match rx_pr (rx_zst z) with
  | some (some _, t) => rx_if (decide (1 ≤ d) && decide (rx_cats t ≤ 8)) (some [rx_nx z 3 t])
  | _ => none
def rx_x_fill (d : Nat) (z : rx_Z) : Option (List rx_Z) := match rx_pi (rx_zst z) with
  | some (v, t) => match rx_pr t with
    | some (some k, t2) => match (z.2.2.1)[k]? with
      | some (.inr (tc, n, _, _)) => rx_if (tc == 0 && (decide (1 ≤ d) && (decide (rx_cats t2 ≤ 8) && decide (n < 2000000000)))) (some [rx_nxh ((z.2.2.1).set k (.inr (0, n, .inl (.inr (0, v)), []))) z 3 t2])
      | _ => none
    | _ => none
  | none => none
def rx_pt (z : rx_Z) (e : rx_E) : Option Int := match rx_bi z.1 e with
  | some (lo, hi) => if lo = hi then some lo else none
  | none => none
def rx_x_copy (d : Nat) (z : rx_Z) : Option (List rx_Z) := match rx_pi (rx_zst z) with
  | some (n, t) => match rx_pi t with
    | some (dp, t) => match rx_pr t with
      | some (some k1, t) => match rx_pi t with
        | some (sp, t) => match rx_pr t with
          | some (some k0, t) => match (z.2.2.1)[k0]?, (z.2.2.1)[k1]? with
            | some (.inr (tc0, n0, df, ov)), some (.inr (tc1, n1, _, _)) => rx_if (tc0 == 0 && (tc1 == 0 && (n0 == n1 && (rx_pt z n == some (n0 : Int) && (rx_pt z dp == some 0 && (rx_pt z sp == some 0 && (decide (1 ≤ d) && (decide (rx_cats t ≤ 8) && decide (n0 < 2000000000))))))))) (some [rx_nxh ((z.2.2.1).set k1 (.inr (0, n0, df, ov))) z 3 t])
            | _, _ => none
          | _ => none
        | none => none
      | _ => none
    | none => none
  | none => none
def rx_x_min (d : Nat) (z : rx_Z) : Option (List rx_Z) := match rx_pi (rx_zst z) with
  | some (b, t) => match rx_pi t with
    | some (a, t) => match rx_pt z a, rx_pt z b with
      | some x, some y => rx_if (decide (1 ≤ d) && decide (rx_cats t ≤ 8)) (some [rx_nx z 3 (rx_n (if x < y then x else y) :: t)])
      | _, _ => none
    | none => none
  | none => none
def rx_x_str (sl : Nat → Nat → Option Nat) (o idx : Nat) (z : rx_Z) : Option (List rx_Z) := match sl o idx with
  | some i => some [rx_nx z 2 (.inr (2, (0, (i : Int))) :: rx_zst z)]
  | none => none
def rx_x_slen (len : List Nat) (d : Nat) (z : rx_Z) : Option (List rx_Z) := match rx_zst z with
  | .inr (2, (_, i)) :: t => match len[i.toNat]? with
    | some n => rx_if (decide (1 ≤ i) && (decide (2 ≤ d) && decide (rx_cats t ≤ 8))) (some [rx_nx z 3 (rx_n (n : Int) :: t)])
    | none => none
  | _ => none
/-- the loop of image: the row goes into the images, at its place -/
def rx_isO (v : rx_X) : Option Nat := match v with
  | .inl (.inl (some b)) => some b
  | _ => none
def rx_is0 (v : rx_X) : Bool := match v with
  | .inl (.inr (0, (0, 0))) => true
  | _ => false
/-- the stack holds the loop's 0 alone -/
def rx_st0 (st : List rx_V) : Bool := match st with
  | [.inr (0, (0, 0))] => true
  | _ => false
def rx_objOf (ht : List rx_C) (k ci : Nat) : Option (List rx_X) := match ht[k]? with
  | some (.inl (c, fs)) => if c = ci then some fs else none
  | _ => none
def rx_rowOf (ht : List rx_C) (k tc n : Nat) : Option (rx_X × List (Nat × rx_V)) := match ht[k]? with
  | some (.inr (t, m, df, ov)) => if t = tc ∧ m = n then some (df, ov) else none
  | _ => none
def rx_x_image (z : rx_Z) : Option (List rx_Z) := match z with
  | (I, F, ht, c, s, _, lv, st) => match rx_lk lv 0, rx_lk lv 1, rx_lk lv 2 with
    | some (.inl (some k)), some (.inr (0, e)), some (.inr (0, (0, 0))) => match rx_objOf ht k 12, rx_bi I e with
      | some fs, some (lo, hi) => match (fs[3]?).bind rx_isO, (fs[4]?).bind rx_isO with
        | some b, some a => match rx_rowOf ht b 0 6180, rx_rowOf ht a 0 12360 with
          | some (db, ob), some (da, oa) =>
            rx_if (rx_st0 st && (rx_is0 db && (rx_is0 da && (oa.isEmpty && (decide (lo = hi) && (decide (0 ≤ lo) && (decide (lo ≤ 1) && ob.all (fun q => Nat.blt q.1 6180))))))))
              (some [(I, F, ht.set a (.inr (0, 12360, .inl (rx_n 0), ob.map (fun q => (6180 * lo.toNat + q.1, q.2)))), c, s, 54, (2, rx_n 6180) :: rx_del lv 2, [])])
          | _, _ => none
        | _, _ => none
      | _, _ => none
    | _, _, _ => none
abbrev rx_Im : Type := rx_Mt → Int → Nat → Bool
def rx_xm (M : rx_Mt) (z : rx_Z) : Bool := decide (z.2.2.2.1 ≤ M.2.2.2.2.2.2.1) && decide (z.2.2.2.2.1 ≤ M.2.2.2.2.2.2.2)
def rx_xh (xt sl : Nat → Nat → Option Nat) (len : List Nat) (im : rx_Im) : rx_Xh := fun d M i ln z => match i with
  | .ldc idx => rx_if (ln == 2) (rx_x_str sl M.1 idx z)
  | .sipush n => rx_if (ln == 3 && im M n (rx_zpc z)) (rx_x_image z)
  | .invokespecial idx => rx_if (ln == 3 && xt M.1 idx == some 10) (rx_x_init d z)
  | .invokestatic idx => rx_if (ln == 3) (match xt M.1 idx with
    | some 11 => rx_x_copy d z
    | some 12 => rx_if (rx_xm M z) (rx_x_fill d z)
    | some 13 => rx_if (rx_xm M z) (rx_x_min d z)
    | _ => none)
  | .invokevirtual idx => rx_if (ln == 3 && xt M.1 idx == some 14) (rx_if (rx_xm M z) (rx_x_slen len d z))
  | _ => none
