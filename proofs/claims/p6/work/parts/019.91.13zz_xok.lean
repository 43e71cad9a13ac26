/-! THE INTRINSICS ARE SOUND -/
section RYX
variable {G NW : List Jvm.Cond} {AO : List String} {cl : List vw_C} {nm : Nat → String} {A : Nat → Prop} {xa : Nat → Nat} {PX : State → Prop} {l : Launch} {D : va_G}
variable {p : Program} {e : Env} {R : Room} {s : State} {m : MethodId} {args : Array Value} {below : List Frame} {meth : Method} {c : Code} {Q : State → Prop} {H0 H : Heap} {locs : List Loc} {ls : Array Slot} {r : Nat → Int} {ad : Nat → Nat}
variable {M : ry_Mt} {z : ry_Z} {zs : List ry_Z} {d idx : Nat}
theorem ry_x_init_ok (hF : ry_Fr G NW AO PX p s m args meth c M) (hn : nm M.1 = M.2.2.2.2.1.cls) (hd : d ≤ R.frames) (hdl : d * 40 ≤ R.locals) (hw : Jvm.Cond.methodLink (nm M.1) idx Lib.objectInit ∈ G ∧ Jvm.Cond.instanceMethod Lib.objectInit ∈ G ∧ Jvm.Cond.code Lib.objectInit ⟨#[0xb1]⟩ 1 none ∈ G)
    (hdg : decode M.2.1 (ry_zpc z) = .ok (.invokespecial idx, 3)) (hR : ry_R D cl A s xa M.2.2.1 H0 z r ad H locs ls) (hz : ry_x_init d z = some zs) (K : ∀ z_p ∈ zs, ry_G p l e R s m args below meth c Q D cl A xa M.2.2.1 H0 z.1.length z.2.2.1.length r ad z_p) :
    W p l e R s m args below meth c H locs z.2.2.2.1 z.2.2.2.2.1 Q (F0 m (ry_zpc z) ls ((ry_zst z).map (ry_iv r ad xa))) := by
  unfold ry_x_init at hz
  split at hz
  · rename_i k t hp
    obtain ⟨h1, hz⟩ := ry_if_ok hz
    rw [Bool.and_eq_true, decide_eq_true_eq, decide_eq_true_eq] at h1
    cases hz
    have he := ry_pr_ok hp
    have hst := ry_stsc hR
    rw [he] at hst ⊢
    obtain ⟨hx, hb, hr, hml, hown, hlk, hts, -⟩ := id hF
    rw [hn] at hw
    refine W.objInit hx hb hown (hts _ hw.1) (hts _ hw.2.1) (hts _ hw.2.2) (g := F0 m (ry_zpc z) ls _) rfl (by show ls.size = c.maxLocals; rw [hml]; exact (ry_lvh hR).1) rfl hdg (Nat.le_trans h1.1 hd) ?_ ?_
    · show 2 * 0 + ((t.map (ry_iv r ad xa)).map fun v => v.category).sum + 12 ≤ R.locals
      rw [ry_cats_sum]
      omega
    · exact ry_at (K _ List.mem_cons_self) ry_same.rf ry_sameA.rf (ry_R_nx hR (fun v hv => hst v (List.mem_cons_of_mem _ hv))) rfl rfl rfl rfl
  · cases hz
theorem ry_pt_ok {n : ry_E} {x : Int} (hs : ry_sat z.1 r) (h : ry_pt z n = some x) : Int32.ofInt (ry_ev r n) = Int32.ofInt x ∧ (Int32.ofInt x).toInt = x := by
  unfold ry_pt at h
  split at h
  · rename_i lo hi hb
    split at h
    · rename_i e
      have h' : lo = x := Option.some.inj h
      obtain ⟨h1, h2, h3, -⟩ := ry_bi_ok hs hb
      have e2 : ry_ev r n = x := by omega
      rw [e2] at h3 ⊢
      exact ⟨rfl, h3⟩
    · cases h
  · cases h
theorem ry_x_min_ok (hF : ry_Fr G NW AO PX p s m args meth c M) (hn : nm M.1 = M.2.2.2.2.1.cls) (hd : d ≤ R.frames) (hdl : d * 40 ≤ R.locals) (hmc : z.2.2.2.1 ≤ R.cells) (hms : z.2.2.2.2.1 ≤ R.slots) (hw : Jvm.Cond.methodLink (nm M.1) idx Lib.Math.min.name ∈ G ∧ Jvm.Cond.static Lib.Math.min.name ∈ G ∧ Jvm.Cond.initialized "java/lang/Math" ∈ G ∧ Jvm.Cond.code Lib.Math.min.name Lib.Math.min.code 2 (some .int) ∈ G)
    (hdg : decode M.2.1 (ry_zpc z) = .ok (.invokestatic idx, 3)) (hR : ry_R D cl A s xa M.2.2.1 H0 z r ad H locs ls) (hz : ry_x_min d z = some zs) (K : ∀ z_p ∈ zs, ry_G p l e R s m args below meth c Q D cl A xa M.2.2.1 H0 z.1.length z.2.2.1.length r ad z_p) :
    W p l e R s m args below meth c H locs z.2.2.2.1 z.2.2.2.2.1 Q (F0 m (ry_zpc z) ls ((ry_zst z).map (ry_iv r ad xa))) := by
  unfold ry_x_min at hz
  split at hz
  · rename_i bb t hp
    split at hz
    · rename_i aa t2 hp2
      split at hz
      · rename_i x y hx1 hy1
        obtain ⟨h1, hz⟩ := ry_if_ok hz
        rw [Bool.and_eq_true, decide_eq_true_eq, decide_eq_true_eq] at h1
        cases hz
        have he := ry_pi_ok hp
        have he2 := ry_pi_ok hp2
        subst he2
        have hst := ry_stsc hR
        rw [he] at hst ⊢
        obtain ⟨hx, hb, hr, hml, hown, hlk, hts, -⟩ := id hF
        rw [hn] at hw
        obtain ⟨a1, a2⟩ := ry_pt_ok (r := r) hR.1 hx1
        obtain ⟨b1, b2⟩ := ry_pt_ok (r := r) hR.1 hy1
        show W p l e R s m args below meth c H locs z.2.2.2.1 z.2.2.2.2.1 Q (F0 m (ry_zpc z) ls (.int (Int32.ofInt (ry_ev r bb)) :: .int (Int32.ofInt (ry_ev r aa)) :: t2.map (ry_iv r ad xa)))
        rw [a1, b1]
        refine va_mmin hx hb (by rw [hml]; exact (ry_lvh hR).1.symm) hown (hts _ hw.1) (hts _ hw.2.1) (hts _ hw.2.2.1) (hts _ hw.2.2.2) (Nat.le_trans h1.1 hd) ?_ hmc hms hdg ?_
        · rw [ry_cats_sum]
          omega
        · refine ry_at (K _ List.mem_cons_self) ry_same.rf ry_sameA.rf (ry_R_nx hR (fun v hv => ?_)) rfl rfl rfl ?_
          · rcases List.mem_cons.mp hv with h | h
            · subst h
              exact ry_sc0 hR 0 _
            · exact hst v (List.mem_cons_of_mem _ (List.mem_cons_of_mem _ h))
          · show ry_iv r ad xa (ry_n (if x < y then x else y)) :: t2.map (ry_iv r ad xa) = _
            rw [ry_n_iv hR.1]
            congr 2
            by_cases hyx : Int32.ofInt y < Int32.ofInt x
            · have h2 : y < x := by
                rw [Int32.lt_iff_toInt_lt, a2, b2] at hyx
                exact hyx
              rw [if_pos hyx, if_neg (by omega)]
            · have h2 : ¬ y < x := by
                rw [Int32.lt_iff_toInt_lt, a2, b2] at hyx
                exact hyx
              rw [if_neg hyx]
              by_cases hxy : x < y
              · rw [if_pos hxy]
              · rw [if_neg hxy, show y = x by omega]
      · cases hz
    · cases hz
  · cases hz
end RYX
