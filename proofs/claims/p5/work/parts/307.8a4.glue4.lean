set_option maxHeartbeats 1000000 in
theorem rzQ235T {PX : State → Prop} {Dg : va_G} {A : Nat → Prop} {ad : Nat → Nat} {l : Launch} (hPX : rx_PXOK rxNW A PX) (hsl : ∀ s : State, PX s → ∀ o idx n : Nat, rxSl o idx = some n → ∃ tx : String, vk_R (rxNm o) idx tx (ad n) s) (ih : ∀ (j : Nat) (ct : bx_Ct) (M : rx_Mt), ct ∈ rxCn j → rxT.2.2.2.2.2 j = some M → bx_Con rxG rxNW rxAO PX Dg rxL rxX vwCl A ad l M ct) : bx_ConP rxG rxNW rxAO PX Dg rxL rxX vwCl A ad l rxM235 rxC235 (fun S0 _ => rkPl S0) rxPSROWX := by
  have q110 := rxQ110 (PX := PX) (Dg := Dg) (A := A) (ad := ad) (xa := fun n => n) (l := l) (X := rxX) hPX hsl (fun _ _ h hm => rxX_of (by decide +kernel) h hm) (fun _ _ _ h => absurd h List.not_mem_nil)
  have qTRAX := rxQTRAX (PX := PX) (Dg := Dg) (A := A) (ad := ad) (xa := fun n => n) (l := l) (X := rxX) hPX hsl (fun _ _ h hm => rxX_of (by decide +kernel) h hm) (fun _ _ _ h => absurd h List.not_mem_nil)
  have qROWX := rxQROWX (PX := PX) (Dg := Dg) (A := A) (ad := ad) (xa := fun n => n) (l := l) (X := rxX) hPX hsl (fun _ _ h hm => rxX_of (by decide +kernel) h hm) (fun _ _ _ h => absurd h List.not_mem_nil) q110 qTRAX
  exact fun S0 ws h1 h2 h3 hp => qROWX S0 ws h1 h2 h3 ⟨trivial, hp⟩
set_option maxHeartbeats 1000000 in
theorem rzQ236 {PX : State → Prop} {Dg : va_G} {A : Nat → Prop} {ad : Nat → Nat} {l : Launch} (hPX : rx_PXOK rxNW A PX) (hsl : ∀ s : State, PX s → ∀ o idx n : Nat, rxSl o idx = some n → ∃ tx : String, vk_R (rxNm o) idx tx (ad n) s) : bx_ConP rxG rxNW rxAO PX Dg rxL rxX vwCl A ad l rxM236 rxC236 (fun _ _ => True) rxPSROWY := by
  have qROWY := rxQROWY (PX := PX) (Dg := Dg) (A := A) (ad := ad) (xa := fun n => n) (l := l) (X := rxX) hPX hsl (fun _ _ h hm => rxX_of (by decide +kernel) h hm) (fun _ _ _ h => absurd h List.not_mem_nil)
  exact fun S0 ws h1 h2 h3 _ => qROWY S0 ws h1 h2 h3 trivial
