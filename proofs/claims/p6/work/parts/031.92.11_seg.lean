/-! A PIECE OF A RUN, over the machine: from a state to where the cut says -/
section RYS
variable {G NW : List Jvm.Cond} {AO : List String} {cl : List vw_C} {T : ry_Tb} {nm : Nat → String} {xh : ry_Xh}
variable {p : Program} {l : Launch} {e : Env} {R : Room} {s : State} {m : MethodId} {args : Array Value} {below : List Frame} {meth : Method} {c : Code} {Q : State → Prop}
variable {D : va_G} {A : Nat → Prop} {xa : Nat → Nat} {PX : State → Prop} {ct : Nat → Nat → Option ry_Ent} {cut : Nat → Bool} {mo : Nat → Option (ry_Mt × Bool)}
set_option maxHeartbeats 2000000 in
theorem ry_sgW (hct : ∀ j M lw pc e, mo j = some (M, lw) → ct j pc = some e → ry_entOK xh T lw M pc e) (hmo : ∀ j M, T.2.2.2.2.2 j = some M → mo j = some (M, false)) (hGG : ∀ w ∈ G, goodWord w = true) (hPX : ry_PXOK NW A PX) (t1 : ry_frOK G NW cl nm T) (t2 : ry_crOK G cl nm T) (t3 : ry_arOK G AO cl nm T) (t4 : ry_kcOK G nm T) (t5 : ry_acOK G) (tm : ry_mlOK G nm T) (tc : ry_cjOK G NW cl nm T) (hxh : ry_xhOK xh G NW AO cl nm A xa PX l D) :
    ∀ (f d j : Nat) (lw : Bool) (M : ry_Mt) (z : ry_Z) (zs : List ry_Z), mo j = some (M, lw) → ry_sg ct cut f d j z = some zs → nm M.1 = M.2.2.2.2.1.cls →
    ∀ {H0 H : Heap} {locs : List Loc} {ls : Array Slot} {r : Nat → Int} {ad : Nat → Nat}, ry_Fr G NW AO PX p s m args meth c M → (∀ q, H0.size ≤ q → A q) → H0 = s.heap → M.2.2.2.2.2.2.1 ≤ R.cells → M.2.2.2.2.2.2.2 ≤ R.slots → d ≤ R.frames → d * 40 ≤ R.locals → ry_Scr lw A s xa H0 r → ry_R D cl A s xa M.2.2.1 H0 z r ad H locs ls →
    (∀ z_p ∈ zs, ry_G p l e R s m args below meth c Q D cl A xa M.2.2.1 H0 z.1.length z.2.2.1.length r ad z_p) → W p l e R s m args below meth c H locs z.2.2.2.1 z.2.2.2.2.1 Q (F0 m (ry_zpc z) ls ((ry_zst z).map (ry_iv r ad xa))) := by
  intro f
  induction f with
  | zero =>
    intro d j lw M z zs _ h
    exact absurd (show (none : Option (List ry_Z)) = some zs from h) (fun q => by cases q)
  | succ f ih =>
    intro d j lw M z zs hM h hn H0 H locs ls r ad hF hA hH0 hmc hms hd hdl hscr hR hret
    obtain ⟨I, F, ht, cc, ss, pc, lv, st⟩ := z
    rw [ry_sg] at h
    split at h
    · cases h
      exact hret _ List.mem_cons_self r ad H locs ls (Nat.le_refl _) (Nat.le_refl _) ry_same.rf ry_sameA.rf hR
    · split at h
      · cases h
      · rename_i g hg
        split at h
        · cases h
        · rename_i zs1 hzs1
          obtain ⟨i, len, hdg, hk⟩ := hct j M lw pc _ hM hg
          have hk := (hk d I F ht cc ss lv st).2 zs1 hzs1
          have K : ∀ z_p ∈ zs1, ry_G p l e R s m args below meth c Q D cl A xa M.2.2.1 H0 I.length ht.length r ad z_p := by
            intro z_p hz' r_p ad' H' locs' ls' hN hMm hr ha hR'
            obtain ⟨xs, hx1, hx2⟩ := ry_bind_mem h hz'
            exact ih d j lw M z_p xs hM hx1 hn hF hA hH0 hmc hms hd hdl (hscr.to hR.1.2.1 hr) hR' fun z2 hz2 r2 ad2 H2 locs2 ls2 hN2 hM2 hr2 ha2 => hret z2 (hx2 z2 hz2) r2 ad2 H2 locs2 ls2 (Nat.le_trans hN hN2) (Nat.le_trans hMm hM2) (hr.tr hr2 hN) (ha.tr ha2 hMm)
          rcases ry_or_ok hk with h1 | h1
          · exact hxh d M i len _ zs1 h1 hn hF hA hH0 hmc hms hd hdl hdg hR K
          · exact ry_step_ok hF hn t1 t2 t3 t4 t5 hA hmc hms hscr hdg hR h1 K
      · cases h
      · rename_i j_p M_p g hg
        cases d with
        | zero => cases h
        | succ d' =>
          dsimp only at h
          split at h
          · cases h
          · rename_i as t hast
            split at h
            · cases h
            · rename_i Es' hEs'
              obtain ⟨i, len, hdg, hj, hk⟩ := hct j M lw pc _ hM hg
              obtain ⟨q, hprep⟩ := (hk (d' + 1) I F ht cc ss lv st).2.2 as t hast
              have hex' := ry_ex2_ok (xh := xh) (T := T) (mo := mo) hct hmo f d' j_p M_p false _ Es' (hmo j_p M_p hj) hEs'
              obtain ⟨as2, hrun⟩ := ry_run (l := l) (D := D) hGG hPX tm tc (ry_goal hGG hPX t1 t2 t3 t4 t5 tm tc hxh f d' false) hn hF hA hH0 hmc hms hd hdl hR hdg hprep hex'
              obtain ⟨hW0, hS⟩ := hR.2.2.2.1.to0
              refine ry_call hrun hS (fun _ _ _ h => h.2) fun v st2 tt H1 locs1 ht2 hst hvm hpost hS1 => ?_
              obtain ⟨⟨E, hE, r_p, ad', hN, hMm, hsr, hsa, hRE, hov⟩, -⟩ := hpost
              cases hov
              obtain ⟨xs, hx1, hx2⟩ := ry_bind_mem h hE
              obtain ⟨b1, b2, b3, b4, b5⟩ := hRE
              rw [ht2] at b4
              have b4 := b4.moved hvm.symm
              have hstz := ry_stsc hR
              have htsc : ∀ y ∈ t, ry_sc I.length ht.length y := by
                obtain ⟨op, idx, -, -, -, -, -, -, -, hsh⟩ := ry_prep_ok hprep
                intro y hy
                rcases hsh with ⟨-, -, e1⟩ | ⟨-, k, as3, fs, -, -, e1, -⟩
                · exact hstz y (by rw [e1]; exact List.mem_append_right _ hy)
                · exact hstz y (by rw [e1]; exact List.mem_append_right _ (List.mem_cons_of_mem _ hy))
              have hR' : ry_R D cl A s xa M.2.2.1 H0 (ry_back M_p (I, F, ht, cc, ss, pc, lv, st) t E) r_p ad' H1 locs1 ls := by
                refine ⟨b1, b2, b3, b4.to hS1, ?_, fun y hy => ry_sc.mono (ry_lvsc hR y hy) hN hMm, fun y hy => ?_⟩
                · have h := ry_lvh hR
                  show lv_has ls M.2.2.1 (ry_lvs r_p ad' xa (ry_zlv (I, F, ht, cc, ss, pc, lv, st)))
                  rw [ry_lvs_ext (ry_lvsc hR) hsr hsa]
                  exact h
                · rcases List.mem_append.mp hy with h | h
                  · refine b5 y ?_
                    cases hv : E.2.2.2 with
                    | none => rw [hv] at h; exact absurd h List.not_mem_nil
                    | some w =>
                      rw [hv] at h
                      rcases List.mem_cons.mp h with h | h
                      · rw [h]
                      · exact absurd h List.not_mem_nil
                  · exact ry_sc.mono (htsc y h) hN hMm
              have hgo := ih (d' + 1) j lw M (ry_back M_p (I, F, ht, cc, ss, pc, lv, st) t E) xs hM hx1 hn hF hA hH0 hmc hms hd hdl (hscr.to hR.1.2.1 hsr) hR' fun z2 hz2 r2 ad2 H2 locs2 ls2 hN2 hM2 hr2 ha2 => hret z2 (hx2 z2 hz2) r2 ad2 H2 locs2 ls2 (Nat.le_trans hN hN2) (Nat.le_trans hMm hM2) (hsr.tr hr2 hN) (hsa.tr ha2 hMm)
              have hstk : (ry_zst (ry_back M_p (I, F, ht, cc, ss, pc, lv, st) t E)).map (ry_iv r_p ad' xa) = (E.2.2.2.map (ry_iv r_p ad' xa)).toList ++ t.map (ry_iv r ad xa) := by
                show (E.2.2.2.toList ++ t).map (ry_iv r_p ad' xa) = _
                rw [List.map_append, ry_toList_map, ry_st_ext htsc hsr hsa]
              rw [hstk] at hgo
              exact hgo
end RYS
