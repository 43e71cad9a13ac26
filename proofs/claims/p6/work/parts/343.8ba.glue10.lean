set_option maxHeartbeats 1000000 in
theorem rzQ179 {PX : State → Prop} {Dg : va_G} {A : Nat → Prop} {ad : Nat → Nat} {l : Launch} (hPX : rx_PXOK rxNW A PX) (hsl : ∀ s : State, PX s → ∀ o idx n : Nat, rxSl o idx = some n → ∃ tx : String, vk_R (rxNm o) idx tx (ad n) s) : bx_ConP rxG rxNW rxAO PX Dg rxL rxX vwCl A ad l rxM179 rxC179 (fun _ _ => True) rxPSMNR := by
  have qFTX := rxQFTX (PX := PX) (Dg := Dg) (A := A) (ad := ad) (xa := fun n => n) (l := l) (X := rxX) hPX hsl (fun _ _ h hm => rxX_of (by decide +kernel) h hm) (fun _ _ _ h => absurd h List.not_mem_nil)
  have qMNR := rxQMNR (PX := PX) (Dg := Dg) (A := A) (ad := ad) (xa := fun n => n) (l := l) (X := rxX) hPX hsl (fun _ _ h hm => rxX_of (by decide +kernel) h hm) (fun _ _ _ h => absurd h List.not_mem_nil) qFTX
  exact fun S0 ws h1 h2 h3 _ => qMNR S0 ws h1 h2 h3 trivial
set_option maxHeartbeats 1000000 in
theorem rzQ249 {PX : State → Prop} {Dg : va_G} {A : Nat → Prop} {ad : Nat → Nat} {l : Launch} (hPX : rx_PXOK rxNW A PX) (hsl : ∀ s : State, PX s → ∀ o idx n : Nat, rxSl o idx = some n → ∃ tx : String, vk_R (rxNm o) idx tx (ad n) s) (ih : ∀ (j : Nat) (ct : bx_Ct) (M : rx_Mt), ct ∈ rxCn j → rxT.2.2.2.2.2 j = some M → bx_Con rxG rxNW rxAO PX Dg rxL rxX vwCl A ad l M ct) : bx_ConP rxG rxNW rxAO PX Dg rxL rxX vwCl A ad l rxM249 rxC249 (fun _ _ => True) rxPSCUD := by
  have q110 := rxQ110 (PX := PX) (Dg := Dg) (A := A) (ad := ad) (xa := fun n => n) (l := l) (X := rxX) hPX hsl (fun _ _ h hm => rxX_of (by decide +kernel) h hm) (fun _ _ _ h => absurd h List.not_mem_nil)
  have qCUD := rxQCUD (PX := PX) (Dg := Dg) (A := A) (ad := ad) (xa := fun n => n) (l := l) (X := rxX) hPX hsl (fun _ _ h hm => rxX_of (by decide +kernel) h hm) (fun _ _ _ h => absurd h List.not_mem_nil) q110
  exact fun S0 ws h1 h2 h3 _ => qCUD S0 ws h1 h2 h3 trivial
set_option maxHeartbeats 1000000 in
theorem rzQ250 {PX : State → Prop} {Dg : va_G} {A : Nat → Prop} {ad : Nat → Nat} {l : Launch} (hPX : rx_PXOK rxNW A PX) (hsl : ∀ s : State, PX s → ∀ o idx n : Nat, rxSl o idx = some n → ∃ tx : String, vk_R (rxNm o) idx tx (ad n) s) : bx_ConP rxG rxNW rxAO PX Dg rxL rxX vwCl A ad l rxM250 rxC250 (fun _ _ => True) rxPSCURR := by
  have qCURR := rxQCURR (PX := PX) (Dg := Dg) (A := A) (ad := ad) (xa := fun n => n) (l := l) (X := rxX) hPX hsl (fun _ _ h hm => rxX_of (by decide +kernel) h hm) (fun _ _ _ h => absurd h List.not_mem_nil)
  exact fun S0 ws h1 h2 h3 _ => qCURR S0 ws h1 h2 h3 trivial
set_option maxHeartbeats 1000000 in
theorem rzQ251 {PX : State → Prop} {Dg : va_G} {A : Nat → Prop} {ad : Nat → Nat} {l : Launch} (hPX : rx_PXOK rxNW A PX) (hsl : ∀ s : State, PX s → ∀ o idx n : Nat, rxSl o idx = some n → ∃ tx : String, vk_R (rxNm o) idx tx (ad n) s) (ih : ∀ (j : Nat) (ct : bx_Ct) (M : rx_Mt), ct ∈ rxCn j → rxT.2.2.2.2.2 j = some M → bx_Con rxG rxNW rxAO PX Dg rxL rxX vwCl A ad l M ct) : bx_ConP rxG rxNW rxAO PX Dg rxL rxX vwCl A ad l rxM251 rxC251 (fun _ _ => True) rxPS251 := by
  have q251 := rxQ251 (PX := PX) (Dg := Dg) (A := A) (ad := ad) (xa := fun n => n) (l := l) (X := rxX) hPX hsl (fun _ _ h hm => rxX_of (by decide +kernel) h hm) (fun _ _ _ h => absurd h List.not_mem_nil)
  exact fun S0 ws h1 h2 h3 _ => q251 S0 ws h1 h2 h3 trivial
set_option maxHeartbeats 1000000 in
theorem rzQ252 {PX : State → Prop} {Dg : va_G} {A : Nat → Prop} {ad : Nat → Nat} {l : Launch} (hPX : rx_PXOK rxNW A PX) (hsl : ∀ s : State, PX s → ∀ o idx n : Nat, rxSl o idx = some n → ∃ tx : String, vk_R (rxNm o) idx tx (ad n) s) : bx_ConP rxG rxNW rxAO PX Dg rxL rxX vwCl A ad l rxM252 rxC252 (fun _ _ => True) rxPS252 := by
  have q252 := rxQ252 (PX := PX) (Dg := Dg) (A := A) (ad := ad) (xa := fun n => n) (l := l) (X := rxX) hPX hsl (fun _ _ h hm => rxX_of (by decide +kernel) h hm) (fun _ _ _ h => absurd h List.not_mem_nil)
  exact fun S0 ws h1 h2 h3 _ => q252 S0 ws h1 h2 h3 trivial
