set_option maxHeartbeats 1000000 in
theorem rzQ211 {PX : State → Prop} {Dg : va_G} {A : Nat → Prop} {ad : Nat → Nat} {l : Launch} (hPX : rx_PXOK rxNW A PX) (hsl : ∀ s : State, PX s → ∀ o idx n : Nat, rxSl o idx = some n → ∃ tx : String, vk_R (rxNm o) idx tx (ad n) s) : bx_ConP rxG rxNW rxAO PX Dg rxL rxX vwCl A ad l rxM211 rxC211 (fun _ _ => True) rxPS211 := by
  have q211 := rxQ211 (PX := PX) (Dg := Dg) (A := A) (ad := ad) (xa := fun n => n) (l := l) (X := (fun _ => True)) hPX hsl (fun _ _ h _ => h) (fun _ _ _ h => absurd h List.not_mem_nil)
  exact rx_conX q211 (fun _ _ _ => trivial) (fun S0 ws S w h hm hp => rxX211 h hm hp)
