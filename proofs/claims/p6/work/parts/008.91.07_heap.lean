/-! A REFLECTED MACHINE, part 6: switches, and what reads and writes cells -/
/-- a field: class, place, kind of its type (0 int, 1 boolean, 2 long, 3 reference), final, by a nest mate -/
abbrev ry_Q : Type := Nat × Nat × Nat × Bool × Bool
def ry_tyc (ty : FieldType) : Nat := match ty with
  | .int => 0
  | .boolean => 1
  | .long => 2
  | .object _ => 3
  | .array _ => 3
  | _ => 9
def ry_in01 (I : ry_I) (e : ry_E) : Bool := match ry_bi I e with
  | some (lo, hi) => decide (0 ≤ lo) && decide (hi ≤ 1)
  | none => false
def ry_fit (I : ry_I) (tc : Nat) (v : ry_V) : Bool := match tc with
  | 0 => (match v with
    | .inr (0, _) => true
    | _ => false)
  | 1 => (match v with
    | .inr (0, e) => ry_in01 I e
    | _ => false)
  | 2 => (match v with
    | .inr (1, _) => true
    | _ => false)
  | 3 => (match v with
    | .inl _ => true
    | _ => false)
  | _ => false
theorem ry_in01_ok {I : ry_I} {e : ry_E} {r : Nat → Int} (h : ry_sat I r) (hf : ry_in01 I e = true) : Int32.ofInt (ry_ev r e) = 0 ∨ Int32.ofInt (ry_ev r e) = 1 := by
  unfold ry_in01 at hf
  split at hf
  · rename_i lo hi he
    obtain ⟨h1, h2, -, -⟩ := ry_bi_ok h he
    rw [Bool.and_eq_true, decide_eq_true_eq, decide_eq_true_eq] at hf
    rcases (show ry_ev r e = 0 ∨ ry_ev r e = 1 by omega) with q | q
    · exact Or.inl (by rw [q]; rfl)
    · exact Or.inr (by rw [q]; rfl)
  · exact absurd hf Bool.false_ne_true
theorem ry_fit_ok {I : ry_I} {tc : Nat} {v : ry_V} {r : Nat → Int} {ad xa : Nat → Nat} {ty : FieldType} (h : ry_sat I r) (hf : ry_fit I tc v = true) (hty : ry_tyc ty = tc) : narrow ty (ry_iv r ad xa v) = ry_iv r ad xa v ∧ fits ty (ry_iv r ad xa v) = true := by
  subst hty
  have no : ∀ {P : Prop}, false = true → P := fun q => absurd q Bool.false_ne_true
  match ty, v, hf with
  | .int, .inr (0, e), _ => exact ⟨rfl, rfl⟩
  | .int, .inl _, hf => exact no hf
  | .int, .inr (_ + 1, _), hf => exact no hf
  | .boolean, .inr (0, e), hf =>
    have h2 : ry_in01 I e = true := hf
    rcases ry_in01_ok h h2 with q | q
    · show narrow .boolean (.int (Int32.ofInt (ry_ev r e))) = .int (Int32.ofInt (ry_ev r e)) ∧ fits .boolean (.int (Int32.ofInt (ry_ev r e))) = true
      rw [q]
      exact ⟨rfl, rfl⟩
    · show narrow .boolean (.int (Int32.ofInt (ry_ev r e))) = .int (Int32.ofInt (ry_ev r e)) ∧ fits .boolean (.int (Int32.ofInt (ry_ev r e))) = true
      rw [q]
      exact ⟨rfl, rfl⟩
  | .boolean, .inl _, hf => exact no hf
  | .boolean, .inr (_ + 1, _), hf => exact no hf
  | .long, .inr (1, e), _ => exact ⟨rfl, rfl⟩
  | .long, .inl _, hf => exact no hf
  | .long, .inr (0, _), hf => exact no hf
  | .long, .inr (_ + 2, _), hf => exact no hf
  | .object _, .inl none, _ => exact ⟨rfl, rfl⟩
  | .object _, .inl (some k), _ => exact ⟨rfl, rfl⟩
  | .object _, .inr _, hf => exact no hf
  | .array _, .inl none, _ => exact ⟨rfl, rfl⟩
  | .array _, .inl (some k), _ => exact ⟨rfl, rfl⟩
  | .array _, .inr _, hf => exact no hf
  | .byte, _, hf => exact no hf
  | .char, _, hf => exact no hf
  | .short, _, hf => exact no hf
  | .float, _, hf => exact no hf
  | .double, _, hf => exact no hf
/-- a field of a method's pool is what the table says -/
def ry_Fok (s : State) (args : Array Value) (Ts : List Jvm.Cond) (own : String) (cl : List vw_C) (idx : Nat) (q : ry_Q) : Prop :=
  ∃ (C : String) (T : u_T) (N : Nat) (ty : Nat → FieldType), cl[q.1]? = some (C, T, N) ∧ q.2.1 < N ∧ (∀ w ∈ u_ws C T N, w ∈ Ts) ∧ (∀ k, k < N → parseFieldDescriptor (T k).2.2.1 = some (ty k)) ∧ (∀ a, a < N → ∀ b, b < N → a ≠ b → (T a).2.1 ≠ (T b).2.1) ∧
    ry_tyc (ty q.2.1) = q.2.2.1 ∧ (T q.2.1).2.2.2 = q.2.2.2.1 ∧ (q.2.2.2.1 = true → q.2.2.2.2 = false → (T q.2.1).1 = own) ∧
    ((q.2.2.2.2 = false ∧ (Jvm.Cond.fieldLink own idx (T q.2.1).1 (T q.2.1).2.1 (T q.2.1).2.2.1).before args s = true) ∨ (q.2.2.2.2 = true ∧ ∃ host : String, (Jvm.Cond.fieldLinkNest own idx (T q.2.1).1 (T q.2.1).2.1 (T q.2.1).2.2.1 host).before args s = true))
def ry_nxh (ht : List ry_C) (z : ry_Z) (d : Nat) (st : List ry_V) : ry_Z := match z with
  | (I0, F1, _, c0, s0, pc0, lv0, _) => (I0, F1, ht, c0, s0, pc0 + d, lv0, st)
def ry_h_get (fr : Nat → Option ry_Q) (idx : Nat) (z : ry_Z) : Option (List ry_Z) := match ry_pr (ry_zst z), fr idx with
  | some (some k, t), some q => match (z.2.2.1)[k]? with
    | some (.inl (ci, fs)) => if ci = q.1 then (match fs[q.2.1]? with
      | some (.inl v) => some [ry_nx z 3 (v :: t)]
      | _ => none) else none
    | _ => none
  | _, _ => none
def ry_h_put (fr : Nat → Option ry_Q) (ini : Bool) (idx : Nat) (z : ry_Z) : Option (List ry_Z) := match ry_pv (ry_zst z), fr idx with
  | some (v, t), some q => match ry_pr t with
    | some (some k, t2) => match (z.2.2.1)[k]? with
      | some (.inl (ci, fs)) => if ci = q.1 ∧ q.2.1 < fs.length ∧ ry_fit z.1 q.2.2.1 v = true ∧ (q.2.2.2.1 = false ∨ (ini = true ∧ q.2.2.2.2 = false)) then some [ry_nxh ((z.2.2.1).set k (.inl (ci, fs.set q.2.1 (.inl v)))) z 3 t2] else none
      | _ => none
    | _ => none
  | _, _ => none
/-- an entry comes on top, if it is known -/
def ry_pushX (z : ry_Z) (x : ry_X) (t : List ry_V) : Option (List ry_Z) := match x with
  | .inl v => some [ry_nx z 1 (v :: t)]
  | .inr _ => none
/-- one entry each, for the places lo, lo + 1 .. -/
def ry_each (z : ry_Z) (ix : ry_E) (df : ry_X) (ov : List (Nat × ry_V)) (t : List ry_V) : Nat → Int → Option (List ry_Z)
  | 0, _ => some []
  | c + 1, lo => match ry_gt ov df lo.toNat, ry_each z ix df ov t c (lo + 1) with
    | .inl v, some l => some (ry_way z (2, ix, (0, lo)) (ry_zpc z + 1) (v :: t) ++ l)
    | _, _ => none
def ry_h_ald (okc : Nat → Bool) (z : ry_Z) : Option (List ry_Z) := match ry_pi (ry_zst z) with
  | some (ix, t) => match ry_pr t with
    | some (some k, t2) => match (z.2.2.1)[k]? with
      | some (.inr (tc, n, df, ov)) => if okc tc then (match ry_bi z.1 ix with
        | some (lo, hi) => if 0 ≤ lo ∧ hi < (n : Int) then
            (if lo = hi then ry_pushX z (ry_gt ov df lo.toNat) t2
             else if ov.all (fun q => decide ((q.1 : Int) < lo) || decide (hi < (q.1 : Int))) then ry_pushX z df t2
             else ry_each z (ry_nm z.1 ix) df ov t2 (hi - lo + 1).toNat lo)
          else none
        | none => none) else none
      | _ => none
    | _ => none
  | none => none
def ry_ovset (ov : List (Nat × ry_V)) (df : ry_X) (j : Nat) (v : ry_V) : List (Nat × ry_V) :=
  if (Sum.inl v : ry_X) = df then ov.filter (fun q => !(q.1 == j)) else (j, v) :: ov.filter (fun q => !(q.1 == j))
/-- a store at a known place -/
def ry_h_ast (okc : Nat → Bool) (okv : ry_I → List ry_C → Nat → ry_V → Bool) (z : ry_Z) : Option (List ry_Z) := match ry_pv (ry_zst z) with
  | some (v, t0) => match ry_pi t0 with
    | some (ix, t) => match ry_pr t with
      | some (some k, t2) => match (z.2.2.1)[k]? with
        | some (.inr (tc, n, df, ov)) => if okc tc && okv z.1 z.2.2.1 tc v then (match ry_bi z.1 ix with
          | some (lo, hi) => if 0 ≤ lo ∧ hi < (n : Int) ∧ lo = hi then some [ry_nxh ((z.2.2.1).set k (.inr (tc, n, df, ry_ovset ov df lo.toNat v))) z 1 t2] else none
          | none => none) else none
        | _ => none
      | _ => none
    | none => none
  | none => none
def ry_h_alen (z : ry_Z) : Option (List ry_Z) := match ry_pv (ry_zst z) with
  | some (.inl (some k), t) => match (z.2.2.1)[k]? with
    | some (.inr (_, n, _, _)) => some [ry_nx z 1 (ry_n (n : Int) :: t)]
    | _ => none
  | some (.inr (2, (_, 0)), t) => some [ry_nx z 1 (.inr (0, (1, 0)) :: t)]
  | _ => none
section RYH
variable {p : Program} {l : Launch} {e : Env} {R : Room} {s : State} {m : MethodId} {args : Array Value} {below : List Frame} {meth : Method} {c : Code} {Q : State → Prop}
variable {D : va_G} {cl : List vw_C} {A : Nat → Prop} {xa : Nat → Nat} {nL : Nat} {H0 H : Heap} {locs : List Loc} {ls : Array Slot} {r : Nat → Int} {ad : Nat → Nat}
variable {cc : ByteArray} {z : ry_Z} {zs : List ry_Z}
theorem ry_W_set {N : Nat} {ht : List ry_C} {ws : va_W} {tys : List (ClassId × FieldType)} {k : Nat} {x' : ry_C} {e' : va_E} {H1 : Heap} {locs1 : List Loc} (hK : va_K D cl tys s) (hl : ws.length = ht.length) (hc : ∀ (k : Nat) (x : ry_C), ht[k]? = some x → ry_csc N ht.length x ∧ ∃ e : va_E, ws[k]? = some (ad k, e) ∧ ry_cell cl tys r ad xa x e)
    (hx' : ry_csc N ht.length x') (he' : ry_cell cl tys r ad xa x' e') (hP1 : va_P D cl (ws.set k (ad k, e')) H1) (hD1 : va_D A (ws.set k (ad k, e'))) (hS1 : va_S A H0 H1 locs1) : ry_W D cl A s xa N (ht.set k x') r ad H0 H1 locs1 := by
  refine ⟨ws.set k (ad k, e'), tys, hK, hP1, hD1, hS1, by rw [List.length_set, List.length_set]; exact hl, fun j x hj => ?_⟩
  rw [List.length_set]
  by_cases hjk : j = k
  · subst hjk
    have hlt : j < ht.length := by
      have := (List.getElem?_eq_some_iff.mp hj).1
      rwa [List.length_set] at this
    rw [List.getElem?_set_self hlt] at hj
    cases hj
    exact ⟨hx', e', by rw [List.getElem?_set_self (by rw [hl]; exact hlt)], he'⟩
  · rw [List.getElem?_set_ne (Ne.symm hjk)] at hj
    obtain ⟨h1, e2, h2, h3⟩ := hc j x hj
    exact ⟨h1, e2, by rw [List.getElem?_set_ne (Ne.symm hjk)]; exact h2, h3⟩
theorem ry_R_nxh {ht' : List ry_C} {H1 : Heap} {locs1 : List Loc} {d : Nat} {st : List ry_V} (hR : ry_R D cl A s xa nL H0 z r ad H locs ls) (hlen : ht'.length = (z.2.2.1).length) (hW : ry_W D cl A s xa z.1.length ht' r ad H0 H1 locs1) (hs : ∀ v ∈ st, ry_sc z.1.length (z.2.2.1).length v) : ry_R D cl A s xa nL H0 (ry_nxh ht' z d st) r ad H1 locs1 ls := by
  obtain ⟨h1, h2, h3, -, h5, h6, -⟩ := hR
  refine ⟨h1, h2, h3, hW, h5, ?_, ?_⟩
  · show ∀ q ∈ ry_zlv z, ry_sc z.1.length ht'.length q.2
    rw [hlen]; exact h6
  · show ∀ v ∈ st, ry_sc z.1.length ht'.length v
    rw [hlen]; exact hs
theorem ry_h_get_ok {fr : Nat → Option ry_Q} {idx : Nat} {Ts : List Jvm.Cond} {own : String} (hexec : p.tables.exec = Jvm.exec) (hb : c.code = cc) (hts : ∀ w ∈ Ts, w.before args s = true) (hown : s.vm.findClass own = some m.cls) (hF : ∀ q, fr idx = some q → ry_Fok s args Ts own cl idx q) (hdg : decode cc (ry_zpc z) = .ok (.getfield idx, 3))
    (hR : ry_R D cl A s xa nL H0 z r ad H locs ls) (hz : ry_h_get fr idx z = some zs)
    (K : ∀ z_p ∈ zs, ry_G p l e R s m args below meth c Q D cl A xa nL H0 z.1.length z.2.2.1.length r ad z_p) : W p l e R s m args below meth c H locs z.2.2.2.1 z.2.2.2.2.1 Q (F0 m (ry_zpc z) ls ((ry_zst z).map (ry_iv r ad xa))) := by
  unfold ry_h_get at hz
  split at hz
  · rename_i k t q hst hq
    split at hz
    · rename_i ci fs hht
      split at hz
      · rename_i hci
        split at hz
        · rename_i v hfs
          cases hz
          subst hci
          obtain ⟨ws, tys, hK, hP, hD, hS, hl, hc⟩ := id hR.2.2.2.1
          obtain ⟨hcs, e0, hw, hcell⟩ := hc k _ hht
          obtain ⟨vs, he0, hlen, hvs⟩ := hcell
          subst he0
          obtain ⟨w, hw2, hok⟩ := hvs _ _ hfs
          have hok2 : w = ry_iv r ad xa v := hok
          subst hok2
          have hsc : ry_sc z.1.length z.2.2.1.length v := hcs _ _ hfs
          have hsts := ry_stsc hR
          rw [ry_pr_ok hst] at hsts ⊢
          have kk := ry_at (K _ List.mem_cons_self) ry_same.rf ry_sameA.rf (ry_R_nx hR fun x hx => by
            rcases List.mem_cons.mp hx with h | h
            · subst h; exact hsc
            · exact hsts x (List.mem_cons_of_mem _ h)) (pc := ry_zpc z + 3) (vs := ry_iv r ad xa v :: t.map (ry_iv r ad xa)) rfl rfl rfl rfl
          obtain ⟨C, T, N, ty, f1, f2, f3, f4, f5, f6, f7, f8, f9⟩ := hF q hq
          rcases f9 with ⟨-, f9⟩ | ⟨-, host, f9⟩
          · exact va_get hexec hb hts f3 hown hK hP k hw f1 q.2.1 f2 f9 (fun _ h => h) hw2 hdg kk
          · exact va_getN hexec hb hts f3 hown hK hP k hw f1 q.2.1 f2 f9 (fun _ h => h) hw2 hdg kk
        · cases hz
      · cases hz
    · cases hz
  · cases hz
theorem ry_h_put_ok {fr : Nat → Option ry_Q} {ini : Bool} {idx : Nat} {Ts : List Jvm.Cond} {own : String} (hexec : p.tables.exec = Jvm.exec) (hb : c.code = cc) (hts : ∀ w ∈ Ts, w.before args s = true) (hown : s.vm.findClass own = some m.cls) (hini : ini = true → meth.name = "<init>") (hF : ∀ q, fr idx = some q → ry_Fok s args Ts own cl idx q) (hdg : decode cc (ry_zpc z) = .ok (.putfield idx, 3))
    (hR : ry_R D cl A s xa nL H0 z r ad H locs ls) (hz : ry_h_put fr ini idx z = some zs)
    (K : ∀ z_p ∈ zs, ry_G p l e R s m args below meth c Q D cl A xa nL H0 z.1.length z.2.2.1.length r ad z_p) : W p l e R s m args below meth c H locs z.2.2.2.1 z.2.2.2.2.1 Q (F0 m (ry_zpc z) ls ((ry_zst z).map (ry_iv r ad xa))) := by
  unfold ry_h_put at hz
  split at hz
  · rename_i v t q hst hq
    split at hz
    · rename_i k t2 hst2
      split at hz
      · rename_i ci fs hht
        split at hz
        · rename_i hcond
          obtain ⟨hci, hlt, hfit, hfin⟩ := hcond
          cases hz
          subst hci
          obtain ⟨ws, tys, hK, hP, hD, hS, hl, hc⟩ := id hR.2.2.2.1
          obtain ⟨hcs, e0, hw, hcell⟩ := hc k _ hht
          obtain ⟨vs, he0, hlen, hvs⟩ := hcell
          subst he0
          have hsts := ry_stsc hR
          have e2 := ry_pr_ok hst2
          subst e2
          rw [ry_pv_ok hst] at hsts ⊢
          obtain ⟨C, T, N, ty, f1, f2, f3, f4, f5, f6, f7, f8, f9⟩ := hF q hq
          obtain ⟨n1, n2⟩ := ry_fit_ok (ad := ad) (xa := xa) hR.1 hfit f6
          have hsv : ry_sc z.1.length z.2.2.1.length v := hsts _ List.mem_cons_self
          have kk : ∀ (H1 : Heap) (locs1 : List Loc), va_P D cl (ws.set k (ad k, .inr (q.1, vs.set q.2.1 (ry_iv r ad xa v)))) H1 → va_D A (ws.set k (ad k, .inr (q.1, vs.set q.2.1 (ry_iv r ad xa v)))) → va_S A H0 H1 locs1 → W p l e R s m args below meth c H1 locs1 z.2.2.2.1 z.2.2.2.2.1 Q (F0 m (ry_zpc z + 3) ls (t2.map (ry_iv r ad xa))) := by
            intro H1 locs1 hP1 hD1 hS1
            refine ry_at (K _ List.mem_cons_self) ry_same.rf ry_sameA.rf (ry_R_nxh hR (by rw [List.length_set]) (ry_W_set hK hl hc ?_ ?_ hP1 hD1 hS1) fun x hx => hsts x (List.mem_cons_of_mem _ (List.mem_cons_of_mem _ hx))) rfl rfl rfl rfl
            · intro j f hj
              by_cases hjk : j = q.2.1
              · subst hjk
                rw [List.getElem?_set_self hlt] at hj
                cases hj
                exact hsv
              · rw [List.getElem?_set_ne (Ne.symm hjk)] at hj
                exact hcs j f hj
            · refine ⟨_, rfl, by rw [List.length_set, List.length_set]; exact hlen, fun j f hj => ?_⟩
              by_cases hjk : j = q.2.1
              · subst hjk
                rw [List.getElem?_set_self hlt] at hj
                cases hj
                exact ⟨_, by rw [List.getElem?_set_self (by rw [hlen]; exact hlt)], rfl⟩
              · rw [List.getElem?_set_ne (Ne.symm hjk)] at hj
                obtain ⟨w, g1, g2⟩ := hvs j f hj
                exact ⟨w, by rw [List.getElem?_set_ne (Ne.symm hjk)]; exact g1, g2⟩
          rcases hfin with hfin | ⟨hi, hnest⟩
          · rcases f9 with ⟨-, f9⟩ | ⟨-, host, f9⟩
            · exact va_put hexec hb hts f3 ty f4 f5 hown hK hP hD hS k hw f1 q.2.1 f2 f9 (fun _ h => h) (by rw [f7]; exact hfin) (f4 _ f2) n1 n2 (by rw [hlen]; exact hlt) hdg kk
            · exact va_putN hexec hb hts f3 ty f4 f5 hown hK hP hD hS k hw f1 q.2.1 f2 f9 (fun _ h => h) (by rw [f7]; exact hfin) (f4 _ f2) n1 n2 (by rw [hlen]; exact hlt) hdg kk
          · rcases f9 with ⟨-, f9⟩ | ⟨f9, -⟩
            · cases hfb : q.2.2.2.1 with
              | false => exact va_put hexec hb hts f3 ty f4 f5 hown hK hP hD hS k hw f1 q.2.1 f2 f9 (fun _ h => h) (by rw [f7]; exact hfb) (f4 _ f2) n1 n2 (by rw [hlen]; exact hlt) hdg kk
              | true => exact va_putF hexec hb hts f3 ty f4 f5 hown hK hP hD hS k hw f1 q.2.1 f2 f9 (fun _ h => h) (by rw [f7]; exact hfb) (hini hi) (f8 hfb hnest) (f4 _ f2) n1 n2 (by rw [hlen]; exact hlt) hdg kk
            · rw [hnest] at f9
              exact absurd f9 Bool.false_ne_true
        · cases hz
      · cases hz
    · cases hz
  · cases hz
end RYH
