set_option maxHeartbeats 1000000 in
theorem rzQ211 {PX : State → Prop} {Dg : va_G} {A : Nat → Prop} {ad : Nat → Nat} {l : Launch} (hPX : rx_PXOK rxNW A PX) (hsl : ∀ s : State, PX s → ∀ o idx n : Nat, rxSl o idx = some n → ∃ tx : String, vk_R (rxNm o) idx tx (ad n) s) : bx_ConP rxG rxNW rxAO PX Dg rxL rxX vwCl A ad l rxM211 rxC211 (fun _ _ => True) rxPS211 := by
  have q211 := rxQ211 (PX := PX) (Dg := Dg) (A := A) (ad := ad) (xa := fun n => n) (l := l) (X := (fun _ => True)) hPX hsl (fun _ _ h _ => h) (fun _ _ _ h => absurd h List.not_mem_nil)
  exact rx_conX q211 (fun _ _ _ => trivial) (fun S0 ws S w h hm hp => rxX211 h hm hp)
theorem rx_conW {PX : State → Prop} {Dg : va_G} {A : Nat → Prop} {ad : Nat → Nat} {l : Launch} {X : (Nat → Int → Int) → Prop} {M : rx_Mt} {ct : bx_Ct} {P : (Nat → Int → Int) → List Int → Prop} {PS PS' : (Nat → Int → Int) → List Int → (Nat → Int → Int) → Option Int → Prop} (h : bx_ConP rxG rxNW rxAO PX Dg rxL X vwCl A ad l M ct P PS) (hw : ∀ S0 ws S w, PS S0 ws S w → PS' S0 ws S w) : bx_ConP rxG rxNW rxAO PX Dg rxL X vwCl A ad l M ct P PS' := by
  intro S0 ws hX0 hvs hpr hp Qc hQc
  refine h S0 ws hX0 hvs hpr hp Qc fun x st oc t hq => hQc x st oc t ?_
  obtain ⟨⟨S_p, rv, g1, g2, g3, g4, gX, w, g5, g6⟩, g7⟩ := hq
  exact ⟨⟨S_p, rv, g1, g2, g3, g4, gX, w, hw _ _ _ _ g5, g6⟩, g7⟩
