section
theorem rx_conA {PX : State → Prop} {Dg : va_G} {A : Nat → Prop} {ad : Nat → Nat} {l : Launch} {X : (Nat → Int → Int) → Prop} {M : rx_Mt} {ct : bx_Ct} {P : (Nat → Int → Int) → List Int → Prop} {PS : (Nat → Int → Int) → List Int → (Nat → Int → Int) → Option Int → Prop} (h : bx_ConP rxG rxNW rxAO PX Dg rxL X vwCl A ad l M ct P PS) (hP : ∀ S0 ws, X S0 → bx_argIs rxL ct.1 ws → P S0 ws) : bx_Con rxG rxNW rxAO PX Dg rxL X vwCl A ad l M ct := by
  intro S0 vs hX0 hvs hpr
  obtain ⟨ws, h1, h2⟩ := bx_argOK_is hvs
  rw [h2]
  refine h S0 ws hX0 h1 hpr (hP _ _ hX0 h1) _ fun x st oc t hq => ?_
  obtain ⟨⟨S_p, rv, g1, g2, g3, g4, g5, -⟩, g6⟩ := hq
  exact ⟨⟨S_p, rv, g1, g2, g3, g4, g5⟩, g6⟩
theorem rx_conX {PX : State → Prop} {Dg : va_G} {A : Nat → Prop} {ad : Nat → Nat} {l : Launch} {M : rx_Mt} {ct : bx_Ct} {P : (Nat → Int → Int) → List Int → Prop} {PS : (Nat → Int → Int) → List Int → (Nat → Int → Int) → Option Int → Prop} (h : bx_ConP rxG rxNW rxAO PX Dg rxL (fun _ => True) vwCl A ad l M ct P PS) (hP : ∀ S0 ws, rxX S0 → P S0 ws) (hPS : ∀ S0 ws S w, rxX S0 → bx_same rxL (bx_mdl ct.2.2.1) S0 S → PS S0 ws S w → rxX S) : bx_ConP rxG rxNW rxAO PX Dg rxL rxX vwCl A ad l M ct (fun _ _ => True) PS := by
  intro S0 ws hX0 hvs hpr _ Qc hQc
  refine h S0 ws trivial hvs hpr (hP _ _ hX0) Qc fun x st oc t hq => hQc x st oc t ?_
  obtain ⟨⟨S_p, rv, g1, g2, g3, g4, -, w, g5, g6⟩, g7⟩ := hq
  exact ⟨⟨S_p, rv, g1, g2, g3, g4, hPS _ _ _ _ hX0 g4 g5, w, g5, g6⟩, g7⟩
set_option maxHeartbeats 1000000 in
theorem rxH59 {PX : State → Prop} {Dg : va_G} {A : Nat → Prop} {ad av : Nat → Nat} {l : Launch} (hPX : rx_PXOK rxNW A PX) (hsl : ∀ s : State, PX s → ∀ o idx n : Nat, rxSl o idx = some n → ∃ tx : String, vk_R (rxNm o) idx tx (ad n) s) (hstr : rx_hstr PX A ad av)
     : bx_Con rxG rxNW rxAO PX Dg rxL rxX vwCl A ad l rxM59 rxC59 := by
  have q59 := rxQ59 (PX := PX) (Dg := Dg) (A := A) (ad := ad) (xa := fun n => n) (l := l) (X := rxX) (av := av) hPX hsl (fun _ _ h hm => rxX_of (by decide +kernel) h hm) (fun _ _ _ h => absurd h List.not_mem_nil) hstr
  exact rx_conA q59 fun S0 ws _ hw => by
    obtain ⟨w, wt, rfl, h1, w2, wt2, rfl, h2, rfl⟩ := hw
    have e : w = 412 := h1
    subst e
    exact ⟨w2, rfl, rxTxB h2⟩
set_option maxHeartbeats 1000000 in
theorem rxH177 {PX : State → Prop} {Dg : va_G} {A : Nat → Prop} {ad : Nat → Nat} {l : Launch} (hPX : rx_PXOK rxNW A PX) (hsl : ∀ s : State, PX s → ∀ o idx n : Nat, rxSl o idx = some n → ∃ tx : String, vk_R (rxNm o) idx tx (ad n) s)
     : bx_Con rxG rxNW rxAO PX Dg rxL rxX vwCl A ad l rxM177 rxC177 := by
  have q306 := rxQ306 (PX := PX) (Dg := Dg) (A := A) (ad := ad) (xa := fun n => n) (l := l) (X := rxX) hPX hsl (fun _ _ h hm => rxX_of (by decide +kernel) h hm) (fun _ _ _ h => absurd h List.not_mem_nil)
  have q177 := rxQ177 (PX := PX) (Dg := Dg) (A := A) (ad := ad) (xa := fun n => n) (l := l) (X := rxX) hPX hsl (fun _ _ h hm => rxX_of (by decide +kernel) h hm) (fun _ _ _ h => absurd h List.not_mem_nil) q306
  exact q177.con fun _ _ => trivial
set_option maxHeartbeats 1000000 in
theorem rxH181 {PX : State → Prop} {Dg : va_G} {A : Nat → Prop} {ad : Nat → Nat} {l : Launch} (hPX : rx_PXOK rxNW A PX) (hsl : ∀ s : State, PX s → ∀ o idx n : Nat, rxSl o idx = some n → ∃ tx : String, vk_R (rxNm o) idx tx (ad n) s)
    (ih : ∀ (j : Nat) (ct : bx_Ct) (M : rx_Mt), ct ∈ rxCn j → ct.2.2.2.1 + 1 ≤ rxC181.2.2.2.1 → rxT.2.2.2.2.2 j = some M → bx_Con rxG rxNW rxAO PX Dg rxL rxX vwCl A ad l M ct) : bx_Con rxG rxNW rxAO PX Dg rxL rxX vwCl A ad l rxM181 rxC181 := by
  have q301 := rxQ301 (PX := PX) (Dg := Dg) (A := A) (ad := ad) (xa := fun n => n) (l := l) (X := rxX) hPX hsl (fun _ _ h hm => rxX_of (by decide +kernel) h hm) (fun _ _ _ h => absurd h List.not_mem_nil)
  have q181 := rxQ181 (PX := PX) (Dg := Dg) (A := A) (ad := ad) (xa := fun n => n) (l := l) (X := rxX) hPX hsl (fun _ _ h hm => rxX_of (by decide +kernel) h hm) (fun j2 ct2 M2 hc hd hM => ih j2 ct2 M2 hc (Nat.le_trans hd (by decide)) hM) q301
  exact q181.con fun _ _ => trivial
set_option maxHeartbeats 1000000 in
theorem rxH187 {PX : State → Prop} {Dg : va_G} {A : Nat → Prop} {ad : Nat → Nat} {l : Launch} (hPX : rx_PXOK rxNW A PX) (hsl : ∀ s : State, PX s → ∀ o idx n : Nat, rxSl o idx = some n → ∃ tx : String, vk_R (rxNm o) idx tx (ad n) s)
     : bx_Con rxG rxNW rxAO PX Dg rxL rxX vwCl A ad l rxM187 rxC187 := by
  have qFO := rxQFO (PX := PX) (Dg := Dg) (A := A) (ad := ad) (xa := fun n => n) (l := l) (X := rxX) hPX hsl (fun _ _ h hm => rxX_of (by decide +kernel) h hm) (fun _ _ _ h => absurd h List.not_mem_nil)
  have qMO := rxQMO (PX := PX) (Dg := Dg) (A := A) (ad := ad) (xa := fun n => n) (l := l) (X := rxX) hPX hsl (fun _ _ h hm => rxX_of (by decide +kernel) h hm) (fun _ _ _ h => absurd h List.not_mem_nil)
  have qMB := rxQMB (PX := PX) (Dg := Dg) (A := A) (ad := ad) (xa := fun n => n) (l := l) (X := rxX) hPX hsl (fun _ _ h hm => rxX_of (by decide +kernel) h hm) (fun _ _ _ h => absurd h List.not_mem_nil) qMO
  have q187 := rxQ187 (PX := PX) (Dg := Dg) (A := A) (ad := ad) (xa := fun n => n) (l := l) (X := rxX) hPX hsl (fun _ _ h hm => rxX_of (by decide +kernel) h hm) (fun _ _ _ h => absurd h List.not_mem_nil) qFO qMO qMB
  exact q187.con fun _ _ => trivial
set_option maxHeartbeats 1000000 in
theorem rxH189 {PX : State → Prop} {Dg : va_G} {A : Nat → Prop} {ad : Nat → Nat} {l : Launch} (hPX : rx_PXOK rxNW A PX) (hsl : ∀ s : State, PX s → ∀ o idx n : Nat, rxSl o idx = some n → ∃ tx : String, vk_R (rxNm o) idx tx (ad n) s)
    (ih : ∀ (j : Nat) (ct : bx_Ct) (M : rx_Mt), ct ∈ rxCn j → ct.2.2.2.1 + 1 ≤ rxC189.2.2.2.1 → rxT.2.2.2.2.2 j = some M → bx_Con rxG rxNW rxAO PX Dg rxL rxX vwCl A ad l M ct) : bx_Con rxG rxNW rxAO PX Dg rxL rxX vwCl A ad l rxM189 rxC189 := by
  have qFP := rxQFP (PX := PX) (Dg := Dg) (A := A) (ad := ad) (xa := fun n => n) (l := l) (X := rxX) hPX hsl (fun _ _ h hm => rxX_of (by decide +kernel) h hm) (fun j2 ct2 M2 hc hd hM => ih j2 ct2 M2 hc (Nat.le_trans hd (by decide)) hM)
  have qFC := rxQFC (PX := PX) (Dg := Dg) (A := A) (ad := ad) (xa := fun n => n) (l := l) (X := rxX) hPX hsl (fun _ _ h hm => rxX_of (by decide +kernel) h hm) (fun _ _ _ h => absurd h List.not_mem_nil)
  have qLO := rxQLO (PX := PX) (Dg := Dg) (A := A) (ad := ad) (xa := fun n => n) (l := l) (X := rxX) hPX hsl (fun _ _ h hm => rxX_of (by decide +kernel) h hm) (fun _ _ _ h => absurd h List.not_mem_nil)
  have qLT := rxQLT (PX := PX) (Dg := Dg) (A := A) (ad := ad) (xa := fun n => n) (l := l) (X := rxX) hPX hsl (fun _ _ h hm => rxX_of (by decide +kernel) h hm) (fun _ _ _ h => absurd h List.not_mem_nil)
  have q189 := rxQ189 (PX := PX) (Dg := Dg) (A := A) (ad := ad) (xa := fun n => n) (l := l) (X := rxX) hPX hsl (fun _ _ h hm => rxX_of (by decide +kernel) h hm) (fun _ _ _ h => absurd h List.not_mem_nil) qFP qFC qLO qLT
  exact q189.con fun _ _ => trivial
theorem rxX209 {S0 S : Nat → Int → Int} {ws : List Int} {w : Option Int} (h : rxX S0) (hm : bx_same rxL (bx_mdl rxC209.2.2.1) S0 S) (hp : rxPS209 S0 ws S w) : rxX S := by
  obtain ⟨h1, h2, h3, h4⟩ := h
  have h15 : S 480 15 = 0 := (rx_sameO hm (p := 480) (j := 15) rfl (by omega) (by decide +kernel) (by decide)).trans h4
  have hrow : ∀ i : Int, 0 ≤ i → i < 6180 → S 482 i = S0 482 i := fun i i0 i1 => rx_sameR hm (p := 482) (tc := 0) (n := 6180) (g := 63) rfl (by omega) (by decide +kernel) (by decide +kernel) i0 (by omega)
  have hr := rxTq_cg h1 (R_p := S 482) fun i i0 i1 => hrow i (by omega) i1
  obtain ⟨k, -, hk, -⟩ := hp
  rcases hk with ⟨k0, k1, -, c1, c2⟩ | ⟨-, -, c⟩
  · rcases (show k = 0 ∨ k = 1 by omega) with rfl | rfl
    · exact ⟨hr, rxTq_cg h1 fun i i0 i1 => by have := c1 i (by omega) i1; rw [show 6180 * (0 : Int) + i = i by omega] at this; exact this, rxTq_cg h3 fun i i0 i1 => c2 _ (by omega), h15⟩
    · exact ⟨hr, rxTq_cg h2 fun i i0 i1 => c2 _ (by omega), rxTq_cg h1 fun i i0 i1 => by have := c1 i (by omega) i1; rw [show 6180 * (1 : Int) + i = 6180 + i by omega] at this; exact this, h15⟩
  · exact ⟨hr, rxTq_cg h2 fun i _ _ => c i, rxTq_cg h3 fun i _ _ => c _, h15⟩
set_option maxHeartbeats 1000000 in
theorem rxH209 {PX : State → Prop} {Dg : va_G} {A : Nat → Prop} {ad : Nat → Nat} {l : Launch} (hPX : rx_PXOK rxNW A PX) (hsl : ∀ s : State, PX s → ∀ o idx n : Nat, rxSl o idx = some n → ∃ tx : String, vk_R (rxNm o) idx tx (ad n) s)
     : bx_ConP rxG rxNW rxAO PX Dg rxL rxX vwCl A ad l rxM209 rxC209 (fun _ _ => True) rxPS209 := by
  have q209 := rxQ209 (PX := PX) (Dg := Dg) (A := A) (ad := ad) (xa := fun n => n) (l := l) (X := (fun _ => True)) hPX hsl (fun _ _ h _ => h) (fun _ _ _ h => absurd h List.not_mem_nil)
  exact rx_conX q209 (fun _ _ _ => trivial) (fun S0 ws S w h hm hp => rxX209 h hm hp)
theorem rxX211 {S0 S : Nat → Int → Int} {ws : List Int} {w : Option Int} (h : rxX S0) (hm : bx_same rxL (bx_mdl rxC211.2.2.1) S0 S) (hp : rxPS211 S0 ws S w) : rxX S := by
  obtain ⟨h1, h2, h3, h4⟩ := h
  have h15 : S 480 15 = 0 := (rx_sameO hm (p := 480) (j := 15) rfl (by omega) (by decide +kernel) (by decide)).trans h4
  have himg : ∀ i : Int, 0 ≤ i → i < 12360 → S 483 i = S0 483 i := fun i i0 i1 => rx_sameR hm (p := 483) (tc := 0) (n := 12360) (g := 64) rfl (by omega) (by decide +kernel) (by decide +kernel) i0 (by omega)
  have a2 := rxTq_cg h2 (R_p := S 483) fun i i0 i1 => himg i (by omega) (by omega)
  have a3 := rxTq_cg h3 (R_p := fun i => S 483 (6180 + i)) fun i i0 i1 => himg _ (by omega) (by omega)
  obtain ⟨k, -, hk⟩ := hp
  rcases hk with ⟨k0, k1, -, -, c1⟩ | ⟨-, -, c⟩
  · rcases (show k = 0 ∨ k = 1 by omega) with rfl | rfl
    · exact ⟨rxTq_cg h2 fun i i0 i1 => by have := c1 i (by omega) i1; rw [show 6180 * (0 : Int) + i = i by omega] at this; exact this, a2, a3, h15⟩
    · exact ⟨rxTq_cg h3 fun i i0 i1 => by have := c1 i (by omega) i1; rw [show 6180 * (1 : Int) + i = 6180 + i by omega] at this; exact this, a2, a3, h15⟩
  · exact ⟨rxTq_cg h1 fun i _ _ => c i, a2, a3, h15⟩
set_option maxHeartbeats 1000000 in
theorem rxH211 {PX : State → Prop} {Dg : va_G} {A : Nat → Prop} {ad : Nat → Nat} {l : Launch} (hPX : rx_PXOK rxNW A PX) (hsl : ∀ s : State, PX s → ∀ o idx n : Nat, rxSl o idx = some n → ∃ tx : String, vk_R (rxNm o) idx tx (ad n) s)
     : bx_Con rxG rxNW rxAO PX Dg rxL rxX vwCl A ad l rxM211 rxC211 := by
  have q211 := rxQ211 (PX := PX) (Dg := Dg) (A := A) (ad := ad) (xa := fun n => n) (l := l) (X := (fun _ => True)) hPX hsl (fun _ _ h _ => h) (fun _ _ _ h => absurd h List.not_mem_nil)
  exact (rx_conX q211 (fun _ _ _ => trivial) (fun S0 ws S w h hm hp => rxX211 h hm hp)).con fun _ _ => trivial
set_option maxHeartbeats 1000000 in
theorem rxH236 {PX : State → Prop} {Dg : va_G} {A : Nat → Prop} {ad : Nat → Nat} {l : Launch} (hPX : rx_PXOK rxNW A PX) (hsl : ∀ s : State, PX s → ∀ o idx n : Nat, rxSl o idx = some n → ∃ tx : String, vk_R (rxNm o) idx tx (ad n) s)
     : bx_Con rxG rxNW rxAO PX Dg rxL rxX vwCl A ad l rxM236 rxC236 := by
  have q236 := rxQ236 (PX := PX) (Dg := Dg) (A := A) (ad := ad) (xa := fun n => n) (l := l) (X := rxX) hPX hsl (fun _ _ h hm => rxX_of (by decide +kernel) h hm) (fun _ _ _ h => absurd h List.not_mem_nil)
  exact q236.con fun _ _ => trivial
set_option maxHeartbeats 1000000 in
theorem rxH240 {PX : State → Prop} {Dg : va_G} {A : Nat → Prop} {ad : Nat → Nat} {l : Launch} (hPX : rx_PXOK rxNW A PX) (hsl : ∀ s : State, PX s → ∀ o idx n : Nat, rxSl o idx = some n → ∃ tx : String, vk_R (rxNm o) idx tx (ad n) s)
     : bx_Con rxG rxNW rxAO PX Dg rxL rxX vwCl A ad l rxM240 rxC240 := by
  have qNX := rxQNX (PX := PX) (Dg := Dg) (A := A) (ad := ad) (xa := fun n => n) (l := l) (X := (fun _ => True)) hPX hsl (fun _ _ h _ => h) (fun _ _ _ h => absurd h List.not_mem_nil)
  have qBG := rxQBG (PX := PX) (Dg := Dg) (A := A) (ad := ad) (xa := fun n => n) (l := l) (X := (fun _ => True)) hPX hsl (fun _ _ h _ => h) (fun _ _ _ h => absurd h List.not_mem_nil) qNX
  have qBX := rxQBX (PX := PX) (Dg := Dg) (A := A) (ad := ad) (xa := fun n => n) (l := l) (X := (fun _ => True)) hPX hsl (fun _ _ h _ => h) (fun _ _ _ h => absurd h List.not_mem_nil) qBG
  have qMU := rxQMU (PX := PX) (Dg := Dg) (A := A) (ad := ad) (xa := fun n => n) (l := l) (X := (fun _ => True)) hPX hsl (fun _ _ h _ => h) (fun _ _ _ h => absurd h List.not_mem_nil) qNX
  have qNU := rxQNU (PX := PX) (Dg := Dg) (A := A) (ad := ad) (xa := fun n => n) (l := l) (X := (fun _ => True)) hPX hsl (fun _ _ h _ => h) (fun _ _ _ h => absurd h List.not_mem_nil) qMU
  have qRPL := rxQRPL (PX := PX) (Dg := Dg) (A := A) (ad := ad) (xa := fun n => n) (l := l) (X := (fun _ => True)) hPX hsl (fun _ _ h _ => h) (fun _ _ _ h => absurd h List.not_mem_nil) qNX qNU
  have qIW := rxQIW (PX := PX) (Dg := Dg) (A := A) (ad := ad) (xa := fun n => n) (l := l) (X := (fun _ => True)) hPX hsl (fun _ _ h _ => h) (fun _ _ _ h => absurd h List.not_mem_nil)
  have qPU := rxQPU (PX := PX) (Dg := Dg) (A := A) (ad := ad) (xa := fun n => n) (l := l) (X := (fun _ => True)) hPX hsl (fun _ _ h _ => h) (fun _ _ _ h => absurd h List.not_mem_nil)
  have qOB := rxQOB (PX := PX) (Dg := Dg) (A := A) (ad := ad) (xa := fun n => n) (l := l) (X := (fun _ => True)) hPX hsl (fun _ _ h _ => h) (fun _ _ _ h => absurd h List.not_mem_nil) qMU qPU
  have qPP := rxQPP (PX := PX) (Dg := Dg) (A := A) (ad := ad) (xa := fun n => n) (l := l) (X := (fun _ => True)) hPX hsl (fun _ _ h _ => h) (fun _ _ _ h => absurd h List.not_mem_nil)
  have qPA := rxQPA (PX := PX) (Dg := Dg) (A := A) (ad := ad) (xa := fun n => n) (l := l) (X := (fun _ => True)) hPX hsl (fun _ _ h _ => h) (fun _ _ _ h => absurd h List.not_mem_nil)
  have qEM := rxQEM (PX := PX) (Dg := Dg) (A := A) (ad := ad) (xa := fun n => n) (l := l) (X := (fun _ => True)) hPX hsl (fun _ _ h _ => h) (fun _ _ _ h => absurd h List.not_mem_nil)
  have qLF := rxQLF (PX := PX) (Dg := Dg) (A := A) (ad := ad) (xa := fun n => n) (l := l) (X := (fun _ => True)) hPX hsl (fun _ _ h _ => h) (fun _ _ _ h => absurd h List.not_mem_nil) qMU qEM
  have qRP := rxQRP (PX := PX) (Dg := Dg) (A := A) (ad := ad) (xa := fun n => n) (l := l) (X := (fun _ => True)) hPX hsl (fun _ _ h _ => h) (fun _ _ _ h => absurd h List.not_mem_nil) qOB qPP qPA qLF
  have qRN := rxQRN (PX := PX) (Dg := Dg) (A := A) (ad := ad) (xa := fun n => n) (l := l) (X := (fun _ => True)) hPX hsl (fun _ _ h _ => h) (fun _ _ _ h => absurd h List.not_mem_nil) qPU qNX qOB qRP
  have qBI := rxQBI (PX := PX) (Dg := Dg) (A := A) (ad := ad) (xa := fun n => n) (l := l) (X := (fun _ => True)) hPX hsl (fun _ _ h _ => h) (fun _ _ _ h => absurd h List.not_mem_nil)
  have qST := rxQST (PX := PX) (Dg := Dg) (A := A) (ad := ad) (xa := fun n => n) (l := l) (X := (fun _ => True)) hPX hsl (fun _ _ h _ => h) (fun _ _ _ h => absurd h List.not_mem_nil) qEM
  have qIN := rxQIN (PX := PX) (Dg := Dg) (A := A) (ad := ad) (xa := fun n => n) (l := l) (X := (fun _ => True)) hPX hsl (fun _ _ h _ => h) (fun _ _ _ h => absurd h List.not_mem_nil)
  have qIS := rxQIS (PX := PX) (Dg := Dg) (A := A) (ad := ad) (xa := fun n => n) (l := l) (X := (fun _ => True)) hPX hsl (fun _ _ h _ => h) (fun _ _ _ h => absurd h List.not_mem_nil)
  have qIC := rxQIC (PX := PX) (Dg := Dg) (A := A) (ad := ad) (xa := fun n => n) (l := l) (X := (fun _ => True)) hPX hsl (fun _ _ h _ => h) (fun _ _ _ h => absurd h List.not_mem_nil)
  have qBS := rxQBS (PX := PX) (Dg := Dg) (A := A) (ad := ad) (xa := fun n => n) (l := l) (X := (fun _ => True)) hPX hsl (fun _ _ h _ => h) (fun _ _ _ h => absurd h List.not_mem_nil) qBI qST qPU qNX qIN qIS qMU qIC
  have qBT := rxQBT (PX := PX) (Dg := Dg) (A := A) (ad := ad) (xa := fun n => n) (l := l) (X := (fun _ => True)) hPX hsl (fun _ _ h _ => h) (fun _ _ _ h => absurd h List.not_mem_nil) qST qPU qEM qNX qIN qIS qMU
  have qRE := rxQRE (PX := PX) (Dg := Dg) (A := A) (ad := ad) (xa := fun n => n) (l := l) (X := (fun _ => True)) hPX hsl (fun _ _ h _ => h) (fun _ _ _ h => absurd h List.not_mem_nil) qRN qRP qBS qBT qST
  have qRY := rxQRY (PX := PX) (Dg := Dg) (A := A) (ad := ad) (xa := fun n => n) (l := l) (X := (fun _ => True)) hPX hsl (fun _ _ h _ => h) (fun _ _ _ h => absurd h List.not_mem_nil) qMU qRPL qIW qRE qNX
  have qET := rxQET (PX := PX) (Dg := Dg) (A := A) (ad := ad) (xa := fun n => n) (l := l) (X := (fun _ => True)) hPX hsl (fun _ _ h _ => h) (fun _ _ _ h => absurd h List.not_mem_nil) qMU
  have qRA := rxQRA (PX := PX) (Dg := Dg) (A := A) (ad := ad) (xa := fun n => n) (l := l) (X := (fun _ => True)) hPX hsl (fun _ _ h _ => h) (fun _ _ _ h => absurd h List.not_mem_nil)
  have qIP := rxQIP (PX := PX) (Dg := Dg) (A := A) (ad := ad) (xa := fun n => n) (l := l) (X := (fun _ => True)) hPX hsl (fun _ _ h _ => h) (fun _ _ _ h => absurd h List.not_mem_nil) qRA
  have q240 := rxQ240 (PX := PX) (Dg := Dg) (A := A) (ad := ad) (xa := fun n => n) (l := l) (X := (fun _ => True)) hPX hsl (fun _ _ h _ => h) (fun _ _ _ h => absurd h List.not_mem_nil) qBX qRY qNX qET qIP
  exact (rx_conX q240 (fun S0 ws h => h) (fun S0 ws S w _ _ h => h)).con fun _ _ => trivial
set_option maxHeartbeats 1000000 in
theorem rxH242 {PX : State → Prop} {Dg : va_G} {A : Nat → Prop} {ad : Nat → Nat} {l : Launch} (hPX : rx_PXOK rxNW A PX) (hsl : ∀ s : State, PX s → ∀ o idx n : Nat, rxSl o idx = some n → ∃ tx : String, vk_R (rxNm o) idx tx (ad n) s)
     : bx_Con rxG rxNW rxAO PX Dg rxL rxX vwCl A ad l rxM242 rxC242 := by
  have qNX := rxQNX (PX := PX) (Dg := Dg) (A := A) (ad := ad) (xa := fun n => n) (l := l) (X := (fun _ => True)) hPX hsl (fun _ _ h _ => h) (fun _ _ _ h => absurd h List.not_mem_nil)
  have qBG := rxQBG (PX := PX) (Dg := Dg) (A := A) (ad := ad) (xa := fun n => n) (l := l) (X := (fun _ => True)) hPX hsl (fun _ _ h _ => h) (fun _ _ _ h => absurd h List.not_mem_nil) qNX
  have qBX := rxQBX (PX := PX) (Dg := Dg) (A := A) (ad := ad) (xa := fun n => n) (l := l) (X := (fun _ => True)) hPX hsl (fun _ _ h _ => h) (fun _ _ _ h => absurd h List.not_mem_nil) qBG
  have qMU := rxQMU (PX := PX) (Dg := Dg) (A := A) (ad := ad) (xa := fun n => n) (l := l) (X := (fun _ => True)) hPX hsl (fun _ _ h _ => h) (fun _ _ _ h => absurd h List.not_mem_nil) qNX
  have qPU := rxQPU (PX := PX) (Dg := Dg) (A := A) (ad := ad) (xa := fun n => n) (l := l) (X := (fun _ => True)) hPX hsl (fun _ _ h _ => h) (fun _ _ _ h => absurd h List.not_mem_nil)
  have qOB := rxQOB (PX := PX) (Dg := Dg) (A := A) (ad := ad) (xa := fun n => n) (l := l) (X := (fun _ => True)) hPX hsl (fun _ _ h _ => h) (fun _ _ _ h => absurd h List.not_mem_nil) qMU qPU
  have qPP := rxQPP (PX := PX) (Dg := Dg) (A := A) (ad := ad) (xa := fun n => n) (l := l) (X := (fun _ => True)) hPX hsl (fun _ _ h _ => h) (fun _ _ _ h => absurd h List.not_mem_nil)
  have qPA := rxQPA (PX := PX) (Dg := Dg) (A := A) (ad := ad) (xa := fun n => n) (l := l) (X := (fun _ => True)) hPX hsl (fun _ _ h _ => h) (fun _ _ _ h => absurd h List.not_mem_nil)
  have qEM := rxQEM (PX := PX) (Dg := Dg) (A := A) (ad := ad) (xa := fun n => n) (l := l) (X := (fun _ => True)) hPX hsl (fun _ _ h _ => h) (fun _ _ _ h => absurd h List.not_mem_nil)
  have qLF := rxQLF (PX := PX) (Dg := Dg) (A := A) (ad := ad) (xa := fun n => n) (l := l) (X := (fun _ => True)) hPX hsl (fun _ _ h _ => h) (fun _ _ _ h => absurd h List.not_mem_nil) qMU qEM
  have qRP := rxQRP (PX := PX) (Dg := Dg) (A := A) (ad := ad) (xa := fun n => n) (l := l) (X := (fun _ => True)) hPX hsl (fun _ _ h _ => h) (fun _ _ _ h => absurd h List.not_mem_nil) qOB qPP qPA qLF
  have qRN := rxQRN (PX := PX) (Dg := Dg) (A := A) (ad := ad) (xa := fun n => n) (l := l) (X := (fun _ => True)) hPX hsl (fun _ _ h _ => h) (fun _ _ _ h => absurd h List.not_mem_nil) qPU qNX qOB qRP
  have qBI := rxQBI (PX := PX) (Dg := Dg) (A := A) (ad := ad) (xa := fun n => n) (l := l) (X := (fun _ => True)) hPX hsl (fun _ _ h _ => h) (fun _ _ _ h => absurd h List.not_mem_nil)
  have qST := rxQST (PX := PX) (Dg := Dg) (A := A) (ad := ad) (xa := fun n => n) (l := l) (X := (fun _ => True)) hPX hsl (fun _ _ h _ => h) (fun _ _ _ h => absurd h List.not_mem_nil) qEM
  have qIN := rxQIN (PX := PX) (Dg := Dg) (A := A) (ad := ad) (xa := fun n => n) (l := l) (X := (fun _ => True)) hPX hsl (fun _ _ h _ => h) (fun _ _ _ h => absurd h List.not_mem_nil)
  have qIS := rxQIS (PX := PX) (Dg := Dg) (A := A) (ad := ad) (xa := fun n => n) (l := l) (X := (fun _ => True)) hPX hsl (fun _ _ h _ => h) (fun _ _ _ h => absurd h List.not_mem_nil)
  have qIC := rxQIC (PX := PX) (Dg := Dg) (A := A) (ad := ad) (xa := fun n => n) (l := l) (X := (fun _ => True)) hPX hsl (fun _ _ h _ => h) (fun _ _ _ h => absurd h List.not_mem_nil)
  have qBS := rxQBS (PX := PX) (Dg := Dg) (A := A) (ad := ad) (xa := fun n => n) (l := l) (X := (fun _ => True)) hPX hsl (fun _ _ h _ => h) (fun _ _ _ h => absurd h List.not_mem_nil) qBI qST qPU qNX qIN qIS qMU qIC
  have qBT := rxQBT (PX := PX) (Dg := Dg) (A := A) (ad := ad) (xa := fun n => n) (l := l) (X := (fun _ => True)) hPX hsl (fun _ _ h _ => h) (fun _ _ _ h => absurd h List.not_mem_nil) qST qPU qEM qNX qIN qIS qMU
  have qRE := rxQRE (PX := PX) (Dg := Dg) (A := A) (ad := ad) (xa := fun n => n) (l := l) (X := (fun _ => True)) hPX hsl (fun _ _ h _ => h) (fun _ _ _ h => absurd h List.not_mem_nil) qRN qRP qBS qBT qST
  have qRL := rxQRL (PX := PX) (Dg := Dg) (A := A) (ad := ad) (xa := fun n => n) (l := l) (X := (fun _ => True)) hPX hsl (fun _ _ h _ => h) (fun _ _ _ h => absurd h List.not_mem_nil) qMU qRE qNX
  have qET := rxQET (PX := PX) (Dg := Dg) (A := A) (ad := ad) (xa := fun n => n) (l := l) (X := (fun _ => True)) hPX hsl (fun _ _ h _ => h) (fun _ _ _ h => absurd h List.not_mem_nil) qMU
  have q242 := rxQ242 (PX := PX) (Dg := Dg) (A := A) (ad := ad) (xa := fun n => n) (l := l) (X := (fun _ => True)) hPX hsl (fun _ _ h _ => h) (fun _ _ _ h => absurd h List.not_mem_nil) qBX qRL qNX qET
  exact (rx_conX q242 (fun S0 ws h => h) (fun S0 ws S w _ _ h => h)).con fun _ _ => trivial
set_option maxHeartbeats 1000000 in
theorem rxH289 {PX : State → Prop} {Dg : va_G} {A : Nat → Prop} {ad : Nat → Nat} {l : Launch} (hPX : rx_PXOK rxNW A PX) (hsl : ∀ s : State, PX s → ∀ o idx n : Nat, rxSl o idx = some n → ∃ tx : String, vk_R (rxNm o) idx tx (ad n) s)
     : bx_Con rxG rxNW rxAO PX Dg rxL rxX vwCl A ad l rxM289 rxC289 := by
  have qRA := rxQRA (PX := PX) (Dg := Dg) (A := A) (ad := ad) (xa := fun n => n) (l := l) (X := rxX) hPX hsl (fun _ _ h hm => rxX_of (by decide +kernel) h hm) (fun _ _ _ h => absurd h List.not_mem_nil)
  have qSO := rxQSO (PX := PX) (Dg := Dg) (A := A) (ad := ad) (xa := fun n => n) (l := l) (X := rxX) hPX hsl (fun _ _ h hm => rxX_of (by decide +kernel) h hm) (fun _ _ _ h => absurd h List.not_mem_nil) qRA
  have q289 := rxQ289 (PX := PX) (Dg := Dg) (A := A) (ad := ad) (xa := fun n => n) (l := l) (X := rxX) hPX hsl (fun _ _ h hm => rxX_of (by decide +kernel) h hm) (fun _ _ _ h => absurd h List.not_mem_nil) qSO
  exact rx_conA q289 fun S0 ws h _ => h
set_option maxHeartbeats 1000000 in
theorem rxH303 {PX : State → Prop} {Dg : va_G} {A : Nat → Prop} {ad : Nat → Nat} {l : Launch} (hPX : rx_PXOK rxNW A PX) (hsl : ∀ s : State, PX s → ∀ o idx n : Nat, rxSl o idx = some n → ∃ tx : String, vk_R (rxNm o) idx tx (ad n) s)
     : bx_Con rxG rxNW rxAO PX Dg rxL rxX vwCl A ad l rxM303 rxC303 := by
  have qFR := rxQFR (PX := PX) (Dg := Dg) (A := A) (ad := ad) (xa := fun n => n) (l := l) (X := rxX) hPX hsl (fun _ _ h hm => rxX_of (by decide +kernel) h hm) (fun _ _ _ h => absurd h List.not_mem_nil)
  have q303 := rxQ303 (PX := PX) (Dg := Dg) (A := A) (ad := ad) (xa := fun n => n) (l := l) (X := rxX) hPX hsl (fun _ _ h hm => rxX_of (by decide +kernel) h hm) (fun _ _ _ h => absurd h List.not_mem_nil) qFR
  exact q303.con fun _ _ => trivial
set_option maxHeartbeats 1000000 in
theorem rxH306 {PX : State → Prop} {Dg : va_G} {A : Nat → Prop} {ad : Nat → Nat} {l : Launch} (hPX : rx_PXOK rxNW A PX) (hsl : ∀ s : State, PX s → ∀ o idx n : Nat, rxSl o idx = some n → ∃ tx : String, vk_R (rxNm o) idx tx (ad n) s)
     : bx_Con rxG rxNW rxAO PX Dg rxL rxX vwCl A ad l rxM306 rxC306 := by
  have q306 := rxQ306 (PX := PX) (Dg := Dg) (A := A) (ad := ad) (xa := fun n => n) (l := l) (X := rxX) hPX hsl (fun _ _ h hm => rxX_of (by decide +kernel) h hm) (fun _ _ _ h => absurd h List.not_mem_nil)
  exact q306.con fun _ _ => trivial
set_option maxHeartbeats 1000000 in
theorem rxH317 {PX : State → Prop} {Dg : va_G} {A : Nat → Prop} {ad : Nat → Nat} {l : Launch} (hPX : rx_PXOK rxNW A PX) (hsl : ∀ s : State, PX s → ∀ o idx n : Nat, rxSl o idx = some n → ∃ tx : String, vk_R (rxNm o) idx tx (ad n) s)
    (ih : ∀ (j : Nat) (ct : bx_Ct) (M : rx_Mt), ct ∈ rxCn j → ct.2.2.2.1 + 1 ≤ rxC317.2.2.2.1 → rxT.2.2.2.2.2 j = some M → bx_Con rxG rxNW rxAO PX Dg rxL rxX vwCl A ad l M ct) : bx_Con rxG rxNW rxAO PX Dg rxL rxX vwCl A ad l rxM317 rxC317 := by
  have qKC := rxQKC (PX := PX) (Dg := Dg) (A := A) (ad := ad) (xa := fun n => n) (l := l) (X := rxX) hPX hsl (fun _ _ h hm => rxX_of (by decide +kernel) h hm) (fun _ _ _ h => absurd h List.not_mem_nil)
  have qCP := rxQCP (PX := PX) (Dg := Dg) (A := A) (ad := ad) (xa := fun n => n) (l := l) (X := rxX) hPX hsl (fun _ _ h hm => rxX_of (by decide +kernel) h hm) (fun _ _ _ h => absurd h List.not_mem_nil)
  have q317 := rxQ317 (PX := PX) (Dg := Dg) (A := A) (ad := ad) (xa := fun n => n) (l := l) (X := rxX) hPX hsl (fun _ _ h hm => rxX_of (by decide +kernel) h hm) (fun j2 ct2 M2 hc hd hM => ih j2 ct2 M2 hc (Nat.le_trans hd (by decide)) hM) qKC qCP
  exact q317.con fun _ _ => trivial
set_option maxHeartbeats 1000000 in
theorem rxH324 {PX : State → Prop} {Dg : va_G} {A : Nat → Prop} {ad : Nat → Nat} {l : Launch} (hPX : rx_PXOK rxNW A PX) (hsl : ∀ s : State, PX s → ∀ o idx n : Nat, rxSl o idx = some n → ∃ tx : String, vk_R (rxNm o) idx tx (ad n) s)
     : bx_Con rxG rxNW rxAO PX Dg rxL rxX vwCl A ad l rxM324 rxC324 := by
  have qFR2 := rxQFR2 (PX := PX) (Dg := Dg) (A := A) (ad := ad) (xa := fun n => n) (l := l) (X := rxX) hPX hsl (fun _ _ h hm => rxX_of (by decide +kernel) h hm) (fun _ _ _ h => absurd h List.not_mem_nil)
  have qIL := rxQIL (PX := PX) (Dg := Dg) (A := A) (ad := ad) (xa := fun n => n) (l := l) (X := rxX) hPX hsl (fun _ _ h hm => rxX_of (by decide +kernel) h hm) (fun _ _ _ h => absurd h List.not_mem_nil)
  have qME := rxQME (PX := PX) (Dg := Dg) (A := A) (ad := ad) (xa := fun n => n) (l := l) (X := rxX) hPX hsl (fun _ _ h hm => rxX_of (by decide +kernel) h hm) (fun _ _ _ h => absurd h List.not_mem_nil) qIL
  have qTB := rxQTB (PX := PX) (Dg := Dg) (A := A) (ad := ad) (xa := fun n => n) (l := l) (X := rxX) hPX hsl (fun _ _ h hm => rxX_of (by decide +kernel) h hm) (fun _ _ _ h => absurd h List.not_mem_nil)
  have qGO := rxQGO (PX := PX) (Dg := Dg) (A := A) (ad := ad) (xa := fun n => n) (l := l) (X := rxX) hPX hsl (fun _ _ h hm => rxX_of (by decide +kernel) h hm) (fun _ _ _ h => absurd h List.not_mem_nil) qIL
  have qFW := rxQFW (PX := PX) (Dg := Dg) (A := A) (ad := ad) (xa := fun n => n) (l := l) (X := rxX) hPX hsl (fun _ _ h hm => rxX_of (by decide +kernel) h hm) (fun _ _ _ h => absurd h List.not_mem_nil) qME qTB qGO
  have q324 := rxQ324 (PX := PX) (Dg := Dg) (A := A) (ad := ad) (xa := fun n => n) (l := l) (X := rxX) hPX hsl (fun _ _ h hm => rxX_of (by decide +kernel) h hm) (fun _ _ _ h => absurd h List.not_mem_nil) qFR2 qFW
  exact q324.con fun _ _ => trivial
theorem rxEvery {PX : State → Prop} {Dg : va_G} {A : Nat → Prop} {ad av : Nat → Nat} {l : Launch} (hPX : rx_PXOK rxNW A PX) (hsl : ∀ s : State, PX s → ∀ o idx n : Nat, rxSl o idx = some n → ∃ tx : String, vk_R (rxNm o) idx tx (ad n) s) (hstr : rx_hstr PX A ad av) : ∀ (n j : Nat) (ct : bx_Ct) (M : rx_Mt), ct ∈ rxCn j → ct.2.2.2.1 ≤ n → rxT.2.2.2.2.2 j = some M → bx_Con rxG rxNW rxAO PX Dg rxL rxX vwCl A ad l M ct := by
  refine rxAll hPX (fun ms hx S S_p h hm => rxX_of hx h hm) hsl ?_
  intro n ih j ct M hj hct hd hM
  unfold rxHand at hj
  obtain ⟨i, hi, he⟩ := List.any_eq_true.mp hj
  have e := eq_of_beq he
  subst e
  unfold rxHandL at hi
  simp only [List.mem_cons, List.not_mem_nil, or_false] at hi
  rcases hi with rfl | rfl | rfl | rfl | rfl | rfl | rfl | rfl | rfl | rfl | rfl | rfl | rfl | rfl | rfl | rfl | rfl
  · have e1 : ct = rxC59 := List.mem_singleton.mp (show ct ∈ [rxC59] from hct)
    have e2 : M = rxM59 := Option.some.inj (hM.symm.trans (rfl : rxT.2.2.2.2.2 59 = some rxM59))
    subst e1
    subst e2
    exact rxH59 hPX hsl hstr
  · have e1 : ct = rxC177 := List.mem_singleton.mp (show ct ∈ [rxC177] from hct)
    have e2 : M = rxM177 := Option.some.inj (hM.symm.trans (rfl : rxT.2.2.2.2.2 177 = some rxM177))
    subst e1
    subst e2
    exact rxH177 hPX hsl
  · have e1 : ct = rxC181 := List.mem_singleton.mp (show ct ∈ [rxC181] from hct)
    have e2 : M = rxM181 := Option.some.inj (hM.symm.trans (rfl : rxT.2.2.2.2.2 181 = some rxM181))
    subst e1
    subst e2
    exact rxH181 hPX hsl (fun j2 ct2 M2 hc hd2 hM2 => ih j2 ct2 M2 hc (Nat.le_trans hd2 hd) hM2)
  · have e1 : ct = rxC187 := List.mem_singleton.mp (show ct ∈ [rxC187] from hct)
    have e2 : M = rxM187 := Option.some.inj (hM.symm.trans (rfl : rxT.2.2.2.2.2 187 = some rxM187))
    subst e1
    subst e2
    exact rxH187 hPX hsl
  · have e1 : ct = rxC189 := List.mem_singleton.mp (show ct ∈ [rxC189] from hct)
    have e2 : M = rxM189 := Option.some.inj (hM.symm.trans (rfl : rxT.2.2.2.2.2 189 = some rxM189))
    subst e1
    subst e2
    exact rxH189 hPX hsl (fun j2 ct2 M2 hc hd2 hM2 => ih j2 ct2 M2 hc (Nat.le_trans hd2 hd) hM2)
  · have e1 : ct = rxC209 := List.mem_singleton.mp (show ct ∈ [rxC209] from hct)
    have e2 : M = rxM209 := Option.some.inj (hM.symm.trans (rfl : rxT.2.2.2.2.2 209 = some rxM209))
    subst e1
    subst e2
    exact (rxH209 hPX hsl).con fun _ _ => trivial
  · have e1 : ct = rxC211 := List.mem_singleton.mp (show ct ∈ [rxC211] from hct)
    have e2 : M = rxM211 := Option.some.inj (hM.symm.trans (rfl : rxT.2.2.2.2.2 211 = some rxM211))
    subst e1
    subst e2
    exact rxH211 hPX hsl
  · have e1 : ct = rxC236 := List.mem_singleton.mp (show ct ∈ [rxC236] from hct)
    have e2 : M = rxM236 := Option.some.inj (hM.symm.trans (rfl : rxT.2.2.2.2.2 236 = some rxM236))
    subst e1
    subst e2
    exact rxH236 hPX hsl
  · have e1 : ct = rxC240 := List.mem_singleton.mp (show ct ∈ [rxC240] from hct)
    have e2 : M = rxM240 := Option.some.inj (hM.symm.trans (rfl : rxT.2.2.2.2.2 240 = some rxM240))
    subst e1
    subst e2
    exact rxH240 hPX hsl
  · have e1 : ct = rxC242 := List.mem_singleton.mp (show ct ∈ [rxC242] from hct)
    have e2 : M = rxM242 := Option.some.inj (hM.symm.trans (rfl : rxT.2.2.2.2.2 242 = some rxM242))
    subst e1
    subst e2
    exact rxH242 hPX hsl
  · have e1 : ct = rxC289 := List.mem_singleton.mp (show ct ∈ [rxC289] from hct)
    have e2 : M = rxM289 := Option.some.inj (hM.symm.trans (rfl : rxT.2.2.2.2.2 289 = some rxM289))
    subst e1
    subst e2
    exact rxH289 hPX hsl
  · have e1 : ct = rxC303 := List.mem_singleton.mp (show ct ∈ [rxC303] from hct)
    have e2 : M = rxM303 := Option.some.inj (hM.symm.trans (rfl : rxT.2.2.2.2.2 303 = some rxM303))
    subst e1
    subst e2
    exact rxH303 hPX hsl
  · have e1 : ct = rxC306 := List.mem_singleton.mp (show ct ∈ [rxC306] from hct)
    have e2 : M = rxM306 := Option.some.inj (hM.symm.trans (rfl : rxT.2.2.2.2.2 306 = some rxM306))
    subst e1
    subst e2
    exact rxH306 hPX hsl
  · exact absurd (show ct ∈ ([] : List bx_Ct) from hct) List.not_mem_nil
  · exact absurd (show ct ∈ ([] : List bx_Ct) from hct) List.not_mem_nil
  · have e1 : ct = rxC317 := List.mem_singleton.mp (show ct ∈ [rxC317] from hct)
    have e2 : M = rxM317 := Option.some.inj (hM.symm.trans (rfl : rxT.2.2.2.2.2 317 = some rxM317))
    subst e1
    subst e2
    exact rxH317 hPX hsl (fun j2 ct2 M2 hc hd2 hM2 => ih j2 ct2 M2 hc (Nat.le_trans hd2 hd) hM2)
  · have e1 : ct = rxC324 := List.mem_singleton.mp (show ct ∈ [rxC324] from hct)
    have e2 : M = rxM324 := Option.some.inj (hM.symm.trans (rfl : rxT.2.2.2.2.2 324 = some rxM324))
    subst e1
    subst e2
    exact rxH324 hPX hsl
end
section
noncomputable def rz_num (x : ry_X) : Int := match x with
  | .inl (.inl (some k)) => (k : Int)
  | .inl (.inr (_, e)) => e.2
  | _ => 0
noncomputable def rz_sl (x : ry_C) (j : Nat) : Int := match x with
  | .inl (_, fs) => match rx_nth fs j with
    | some f => rz_num f
    | none => 0
  | .inr (_, _, df, ov) => rz_num (ry_gt ov df j)
noncomputable def rzS (p : Nat) (j : Int) : Int := match ryH[p]? with
  | some x => rz_sl x j.toNat
  | none => 0
noncomputable def rz_k (tc : Nat) (x : ry_X) : Bool := match x with
  | .inl (.inr (0, e)) => Nat.beq e.1 0 && Nat.ble tc 1
  | .inl (.inr (1, e)) => Nat.beq e.1 0 && Nat.beq tc 2
  | .inl (.inl (some _)) => Nat.ble 3 tc
  | _ => false
noncomputable def rz_ks : List Nat → List ry_X → Bool
  | [], [] => true
  | tc :: l, x :: m => rz_k tc x && rz_ks l m
  | _, _ => false
noncomputable def rz_full (ov : List (Nat × ry_V)) : Nat → Bool
  | 0 => true
  | n + 1 => match ry_lk ov n with
    | some _ => rz_full ov n
    | none => false
noncomputable def rz_cl (k : bx_K) (x : ry_C) : Bool := match k, x with
  | .inl (ci, tcs), .inl (c2, fs) => Nat.beq ci c2 && rz_ks tcs fs
  | .inr (tc, n, _), .inr (t2, n2, df, ov) => Nat.beq tc t2 && (Nat.beq n n2 && ((rz_k tc df || rz_full ov n) && ov.all (fun q => rz_k tc (.inl q.2))))
  | _, _ => false
theorem rz_k_ok {tc : Nat} {x : ry_X} {r : Nat → Int} {ad xa : Nat → Nat} {w : Value} (h : rz_k tc x = true) (hr : r 0 = 0) (hw : ry_ok r ad xa x w) : w = bx_fv ad tc (rz_num x) := by
  unfold rz_k at h
  split at h
  · rename_i e
    rw [Bool.and_eq_true, Nat.beq_eq, Nat.ble_eq] at h
    obtain ⟨h1, h2⟩ := h
    have hw : w = .int (Int32.ofInt (r e.1 + e.2)) := hw
    rw [h1, hr, Int.zero_add] at hw
    rcases (show tc = 0 ∨ tc = 1 by omega) with h | h
    · subst h; exact hw
    · subst h; exact hw
  · rename_i e
    rw [Bool.and_eq_true, Nat.beq_eq, Nat.beq_eq] at h
    obtain ⟨h1, h2⟩ := h
    have hw : w = .long (Int64.ofInt (r e.1 + e.2)) := hw
    rw [h1, hr, Int.zero_add] at hw
    subst h2
    exact hw
  · rename_i k
    have h := Nat.ble_eq.mp h
    have hw : w = .ref (ad k) := hw
    obtain ⟨m, rfl⟩ : ∃ m, tc = m + 3 := ⟨tc - 3, by omega⟩
    exact hw
  · cases h
theorem rz_ks_ok : ∀ {tcs : List Nat} {fs : List ry_X}, rz_ks tcs fs = true → tcs.length = fs.length ∧ ∀ (i tc : Nat), tcs[i]? = some tc → ∃ f, fs[i]? = some f ∧ rx_nth fs i = some f ∧ rz_k tc f = true
  | [], [], _ => ⟨rfl, fun i tc h => by cases h⟩
  | tc :: l, x :: m, h => by
    have h : (rz_k tc x && rz_ks l m) = true := h
    rw [Bool.and_eq_true] at h
    obtain ⟨h1, h2⟩ := rz_ks_ok h.2
    refine ⟨congrArg (· + 1) h1, fun i t hi => ?_⟩
    cases i with
    | zero =>
      cases hi
      exact ⟨x, rfl, rfl, h.1⟩
    | succ i => exact h2 i t hi
  | [], _ :: _, h => by cases h
  | _ :: _, [], h => by cases h
theorem rz_full_ok {ov : List (Nat × ry_V)} : ∀ {n : Nat}, rz_full ov n = true → ∀ j, j < n → ∃ v, ry_lk ov j = some v
  | 0, _, j, hj => absurd hj (Nat.not_lt_zero j)
  | n + 1, h, j, hj => by
    rw [rz_full] at h
    split at h
    · rename_i v hv
      rcases Nat.lt_or_ge j n with h1 | h1
      · exact rz_full_ok h j h1
      · have e : j = n := by omega
        subst e
        exact ⟨v, hv⟩
    · cases h
theorem rz_gt_ok {P : ry_X → Prop} {ov : List (Nat × ry_V)} {df : ry_X} {n : Nat} (h1 : P df ∨ rz_full ov n = true) (h2 : ∀ q ∈ ov, P (.inl q.2)) : ∀ j, j < n → P (ry_gt ov df j) := fun j hj => by
  unfold ry_gt
  split
  · rename_i v hv
    exact h2 _ (ry_lk_mem hv)
  · rename_i hn
    rcases h1 with h1 | h1
    · exact h1
    · obtain ⟨v, hv⟩ := rz_full_ok h1 j hj
      rw [hn] at hv
      cases hv
theorem rz_ty (cl : List vw_C) (tc : Nat) : ry_ty cl tc = rx_ty cl tc := by
  match tc with
  | 0 => rfl
  | 1 => rfl
  | 2 => rfl
  | 3 => rfl
  | 4 => rfl
  | _ + 5 => rfl
theorem rz_sh {tc : Nat} {c : ry_cont} (h : ry_sh tc c) : rx_sh tc c := by
  match tc with
  | 0 => exact h
  | 1 => exact h
  | 2 => exact h
  | 3 => exact h
  | 4 => exact h
  | _ + 5 => exact h
theorem rz_el (c : ry_cont) (j : Nat) : rx_el c j = ry_el c j := by
  match c with
  | .inl f => rfl
  | .inr (.inl f) => rfl
  | .inr (.inr (.inl f)) => rfl
  | .inr (.inr (.inr (.inl f))) => rfl
  | .inr (.inr (.inr (.inr f))) => rfl
theorem rz_cell {cl : List vw_C} {tys : List (ClassId × FieldType)} {r : Nat → Int} {ad xa : Nat → Nat} {k : bx_K} {x : ry_C} {e : va_E} {S : Int → Int} (h : rz_cl k x = true) (hr : r 0 = 0) (hS : ∀ j : Nat, S (j : Int) = rz_sl x j) (hx : ry_cell cl tys r ad xa x e) : bx_cell cl tys ad k S e := by
  unfold rz_cl at h
  split at h
  · rename_i ci tcs c2 fs
    rw [Bool.and_eq_true, Nat.beq_eq] at h
    obtain ⟨h1, h2⟩ := h
    subst h1
    obtain ⟨k1, k2⟩ := rz_ks_ok h2
    obtain ⟨vs, e1, e2, e3⟩ := hx
    refine ⟨vs, e1, e2.trans k1.symm, fun i tc hi => ?_⟩
    obtain ⟨f, f1, f2, f3⟩ := k2 i tc hi
    obtain ⟨w, w1, w2⟩ := e3 i f f1
    rw [w1, hS i]
    show some w = some (bx_fv ad tc (match rx_nth fs i with
      | some f => rz_num f
      | none => 0))
    rw [f2]
    exact congrArg some (rz_k_ok f3 hr w2)
  · rename_i tc n g t2 n2 df ov
    rw [Bool.and_eq_true, Bool.and_eq_true, Bool.and_eq_true, Nat.beq_eq, Nat.beq_eq, Bool.or_eq_true] at h
    obtain ⟨h1, h2, h3, h4⟩ := h
    subst h1; subst h2
    obtain ⟨cA, t0, c, e1, e2, e3, e4⟩ := hx
    refine ⟨cA, t0, c, e1, by rw [← rz_ty]; exact e2, rz_sh e3, fun j hj => ?_⟩
    rw [rz_el, hS j]
    exact rz_k_ok (rz_gt_ok (P := fun x => rz_k tc x = true) h3 (fun q hq => List.all_eq_true.mp h4 q hq) j hj) hr (e4 j hj)
  · cases h
-- what the slots may hold
noncomputable def rz_ok (t : bx_T) (v : Int) : Bool := match t with
  | (0, lo, hi) => decide (lo ≤ v) && decide (v ≤ hi)
  | (1, q, _) => decide (v = q)
  | (_ + 2, d, _) => rxDmf d.toNat v
theorem rz_ok_ok {t : bx_T} {v : Int} (h : rz_ok t v = true) : bx_okT rxL t v := by
  obtain ⟨k, a, b⟩ := t
  match k with
  | 0 =>
    have h : (decide (a ≤ v) && decide (v ≤ b)) = true := h
    rw [Bool.and_eq_true, decide_eq_true_eq, decide_eq_true_eq] at h
    exact h
  | 1 =>
    show v = a
    exact of_decide_eq_true (show decide (v = a) = true from h)
  | _ + 2 => exact h
noncomputable def rz_run (f : Nat → Bool) : Nat → Nat → Bool
  | 0, _ => true
  | k + 1, j => match f j with
    | true => rz_run f k (j + 1)
    | false => false
theorem rz_run_ok {f : Nat → Bool} : ∀ {k j : Nat}, rz_run f k j = true → ∀ i, j ≤ i → i < j + k → f i = true
  | 0, j, _, i, h1, h2 => absurd h2 (Nat.not_lt.mpr h1)
  | k + 1, j, h, i, h1, h2 => by
    rw [rz_run] at h
    split at h
    · rename_i hj
      rcases Nat.lt_or_ge j i with h3 | h3
      · exact rz_run_ok h i h3 (by omega)
      · have e : i = j := by omega
        subst e
        exact hj
    · cases h
noncomputable def rz_cut (lo hi : Int) : bx_S → bx_S
  | [] => []
  | s :: l => match decide (s.1 ≤ hi) && decide (lo ≤ s.2.1) with
    | true => s :: rz_cut lo hi l
    | false => rz_cut lo hi l
theorem rz_cut_ok {lo hi j : Int} (h1 : lo ≤ j) (h2 : j ≤ hi) : ∀ ss : bx_S, bx_sg (rz_cut lo hi ss) j = bx_sg ss j
  | [] => rfl
  | s :: l => by
    have ih := rz_cut_ok h1 h2 l
    rw [rz_cut]
    split
    · show (if s.1 ≤ j ∧ j ≤ s.2.1 ∧ (j - s.1) % s.2.2.1 = 0 then s.2.2.2 else bx_sg (rz_cut lo hi l) j) = (if s.1 ≤ j ∧ j ≤ s.2.1 ∧ (j - s.1) % s.2.2.1 = 0 then s.2.2.2 else bx_sg l j)
      rw [ih]
    · rename_i hf
      rw [ih]
      show bx_sg l j = (if s.1 ≤ j ∧ j ≤ s.2.1 ∧ (j - s.1) % s.2.2.1 = 0 then s.2.2.2 else bx_sg l j)
      rw [if_neg]
      rintro ⟨a, b, -⟩
      rw [Bool.and_eq_false_iff, decide_eq_false_iff_not, decide_eq_false_iff_not] at hf
      omega
noncomputable def rz_blk (v : Nat → Int) (ss : bx_S) (n : Nat) : Nat → Nat → Bool
  | 0, _ => true
  | k + 1, b => match rz_run (fun j => Nat.ble n j || rz_ok (bx_sg (rz_cut ((64 * b : Nat) : Int) ((64 * b + 63 : Nat) : Int) ss) (j : Int)) (v j)) 64 (64 * b) with
    | true => rz_blk v ss n k (b + 1)
    | false => false
theorem rz_blk_ok {v : Nat → Int} {ss : bx_S} {n : Nat} : ∀ {k b : Nat}, rz_blk v ss n k b = true → ∀ i, 64 * b ≤ i → i < 64 * (b + k) → i < n → rz_ok (bx_sg ss (i : Int)) (v i) = true
  | 0, b, _, i, h1, h2, _ => by omega
  | k + 1, b, h, i, h1, h2, h3 => by
    rw [rz_blk] at h
    split at h
    · rename_i hr
      rcases Nat.lt_or_ge i (64 * (b + 1)) with h4 | h4
      · have h5 := rz_run_ok hr i h1 (by omega)
        rw [Bool.or_eq_true, Nat.ble_eq] at h5
        rcases h5 with h5 | h5
        · omega
        · rw [rz_cut_ok (by omega) (by omega)] at h5
          exact h5
      · exact rz_blk_ok h i h4 (by omega) h3
    · cases h
noncomputable def rz_one (ss : bx_S) (n : Nat) (df : ry_X) (ov : List (Nat × ry_V)) : Bool := match ss with
  | [s] => decide (s.1 = 0) && (decide ((n : Int) ≤ s.2.1 + 1) && (decide (s.2.2.1 = 1) && ((rz_ok s.2.2.2 (rz_num df) || rz_full ov n) && ov.all (fun q => rz_ok s.2.2.2 (rz_num (.inl q.2))))))
  | _ => false
theorem rz_one_ok {ss : bx_S} {n : Nat} {df : ry_X} {ov : List (Nat × ry_V)} (h : rz_one ss n df ov = true) (j : Nat) (hj : j < n) : rz_ok (bx_sg ss (j : Int)) (rz_num (ry_gt ov df j)) = true := by
  unfold rz_one at h
  split at h
  · rename_i s
    rw [Bool.and_eq_true, Bool.and_eq_true, Bool.and_eq_true, Bool.and_eq_true, decide_eq_true_eq, decide_eq_true_eq, decide_eq_true_eq, Bool.or_eq_true] at h
    obtain ⟨h1, h2, h3, h4, h5⟩ := h
    have e : bx_sg [s] (j : Int) = s.2.2.2 := by
      show (if s.1 ≤ (j : Int) ∧ (j : Int) ≤ s.2.1 ∧ ((j : Int) - s.1) % s.2.2.1 = 0 then s.2.2.2 else (0, 1, 0)) = s.2.2.2
      rw [if_pos]
      exact ⟨by omega, by omega, by rw [h3]; exact Int.emod_one _⟩
    rw [e]
    exact rz_gt_ok (P := fun x => rz_ok s.2.2.2 (rz_num x) = true) h4 (fun q hq => List.all_eq_true.mp h5 q hq) j hj
  · cases h
theorem rz_sg_mem : ∀ {ss : bx_S} {j : Int}, (∃ s ∈ ss, s.1 ≤ j ∧ j ≤ s.2.1 ∧ (j - s.1) % s.2.2.1 = 0) → ∃ s ∈ ss, bx_sg ss j = s.2.2.2
  | [], _, h => by
    obtain ⟨s, hs, -⟩ := h
    exact absurd hs List.not_mem_nil
  | s :: l, j, h => by
    by_cases c : s.1 ≤ j ∧ j ≤ s.2.1 ∧ (j - s.1) % s.2.2.1 = 0
    · exact ⟨s, List.mem_cons_self, by rw [bx_sg, if_pos c]⟩
    · obtain ⟨t, ht, h2⟩ := h
      rcases List.mem_cons.mp ht with e | e
      · subst e
        exact absurd h2 c
      · obtain ⟨u, hu, e2⟩ := rz_sg_mem ⟨t, e, h2⟩
        exact ⟨u, List.mem_cons_of_mem _ hu, by rw [bx_sg, if_neg c, e2]⟩
noncomputable def rz_grp (c H m : Int) : Nat → Int → bx_S → Bool
  | 0, _, _ => true
  | _ + 1, _, [] => false
  | k + 1, i, s :: l => decide (s.1 = c + i) && (decide (s.2.1 = H + i) && (decide (s.2.2.1 = m) && rz_grp c H m k (i + 1) l))
theorem rz_grp_ok {c H m : Int} : ∀ {k : Nat} {i : Int} {ss : bx_S}, rz_grp c H m k i ss = true → ∀ a : Nat, a < k → ∃ s ∈ ss, s.1 = c + (i + (a : Int)) ∧ s.2.1 = H + (i + (a : Int)) ∧ s.2.2.1 = m
  | 0, _, _, _, a, ha => absurd ha (Nat.not_lt_zero a)
  | _ + 1, _, [], h, _, _ => absurd (show false = true from h) Bool.false_ne_true
  | k + 1, i, s :: l, h, a, ha => by
    rw [rz_grp, Bool.and_eq_true, Bool.and_eq_true, Bool.and_eq_true, decide_eq_true_eq, decide_eq_true_eq, decide_eq_true_eq] at h
    obtain ⟨h1, h2, h3, h4⟩ := h
    cases a with
    | zero => exact ⟨s, List.mem_cons_self, by omega, by omega, h3⟩
    | succ a =>
      obtain ⟨t, ht, e1, e2, e3⟩ := rz_grp_ok h4 a (by omega)
      exact ⟨t, List.mem_cons_of_mem _ ht, by omega, by omega, e3⟩
noncomputable def rz_cov (n : Int) : Nat → Int → bx_S → Bool
  | 0, c, _ => decide (n ≤ c)
  | _ + 1, c, [] => decide (n ≤ c)
  | f + 1, c, s :: l => decide (n ≤ c) || (decide (c ≤ s.2.1) && (decide (0 < s.2.2.1) && (decide ((s.2.1 - c) % s.2.2.1 = 0) && (rz_grp c s.2.1 s.2.2.1 s.2.2.1.toNat 0 (s :: l) && rz_cov n f (s.2.1 + s.2.2.1) (l.drop (s.2.2.1.toNat - 1))))))
theorem rz_cov_in {c H m j : Int} {a : Nat} (g1 : c ≤ H) (g2 : 0 < m) (g3 : (H - c) % m = 0) (h1 : c ≤ j) (h2 : j < H + m) (ha : (j - c) % m = (a : Int)) : c + (a : Int) ≤ j ∧ j ≤ H + (a : Int) ∧ (j - (c + (a : Int))) % m = 0 := by
  have e1 := Int.mul_ediv_add_emod (j - c) m
  have e2 := Int.mul_ediv_add_emod (H - c) m
  rw [ha] at e1
  rw [g3] at e2
  have q0 : 0 ≤ (j - c) / m := Int.ediv_nonneg (by omega) (by omega)
  have q1 : 0 ≤ m * ((j - c) / m) := Int.mul_nonneg (by omega) q0
  have q2 : (j - c) / m < (H - c) / m + 1 := by
    refine Int.lt_of_mul_lt_mul_left (a := m) ?_ (by omega)
    rw [Int.mul_add, Int.mul_one]
    omega
  have q3 : m * ((j - c) / m) ≤ m * ((H - c) / m) := Int.mul_le_mul_of_nonneg_left (by omega) (by omega)
  refine ⟨by omega, by omega, ?_⟩
  have e3 : j - (c + (a : Int)) = m * ((j - c) / m) := by omega
  rw [e3]
  exact Int.mul_emod_right _ _
theorem rz_cov_ok {n : Int} : ∀ {f : Nat} {c : Int} {ss : bx_S}, rz_cov n f c ss = true → ∀ j : Int, c ≤ j → j < n → ∃ s ∈ ss, s.1 ≤ j ∧ j ≤ s.2.1 ∧ (j - s.1) % s.2.2.1 = 0
  | 0, _, _, h, _, h1, h2 => by
    rw [rz_cov, decide_eq_true_eq] at h
    omega
  | _ + 1, _, [], h, _, h1, h2 => by
    rw [rz_cov, decide_eq_true_eq] at h
    omega
  | f + 1, c, s :: l, h, j, h1, h2 => by
    rw [rz_cov, Bool.or_eq_true, decide_eq_true_eq] at h
    rcases h with h | h
    · omega
    · rw [Bool.and_eq_true, Bool.and_eq_true, Bool.and_eq_true, Bool.and_eq_true, decide_eq_true_eq, decide_eq_true_eq, decide_eq_true_eq] at h
      obtain ⟨g1, g2, g3, g4, g5⟩ := h
      by_cases q : j < s.2.1 + s.2.2.1
      · have b1 := Int.emod_nonneg (j - c) (show s.2.2.1 ≠ 0 by omega)
        have b2 := Int.emod_lt_of_pos (j - c) g2
        obtain ⟨t, ht, e1, e2, e3⟩ := rz_grp_ok g4 ((j - c) % s.2.2.1).toNat (by omega)
        have ha : (j - c) % s.2.2.1 = (((j - c) % s.2.2.1).toNat : Int) := (Int.toNat_of_nonneg b1).symm
        obtain ⟨r1, r2, r3⟩ := rz_cov_in g1 g2 g3 h1 q ha
        rw [Int.zero_add] at e1 e2
        exact ⟨t, ht, by rw [e1]; exact r1, by rw [e2]; exact r2, by rw [e1, e3]; exact r3⟩
      · obtain ⟨t, ht, e⟩ := rz_cov_ok g5 j (by omega) h2
        exact ⟨t, List.mem_cons_of_mem _ (List.mem_of_mem_drop ht), e⟩
noncomputable def rz_many (ss : bx_S) (n : Nat) (df : ry_X) (ov : List (Nat × ry_V)) : Bool := rz_cov (n : Int) ss.length 0 ss && (ss.all (fun s => rz_ok s.2.2.2 (rz_num df)) && ov.all (fun q => rz_ok (bx_sg ss (q.1 : Int)) (rz_num (.inl q.2))))
theorem rz_many_ok {ss : bx_S} {n : Nat} {df : ry_X} {ov : List (Nat × ry_V)} (h : rz_many ss n df ov = true) (j : Nat) (hj : j < n) : rz_ok (bx_sg ss (j : Int)) (rz_num (ry_gt ov df j)) = true := by
  unfold rz_many at h
  rw [Bool.and_eq_true, Bool.and_eq_true] at h
  obtain ⟨h1, h2, h3⟩ := h
  cases e : ry_lk ov j with
  | none =>
    have e2 : ry_gt ov df j = df := by
      unfold ry_gt
      rw [e]
    obtain ⟨s, hs, e3⟩ := rz_sg_mem (rz_cov_ok h1 (j : Int) (by omega) (by omega))
    rw [e2, e3]
    exact List.all_eq_true.mp h2 s hs
  | some v =>
    have e2 : ry_gt ov df j = .inl v := by
      unfold ry_gt
      rw [e]
    rw [e2]
    exact List.all_eq_true.mp h3 (j, v) (ry_lk_mem e)
noncomputable def rz_sp (pl : bx_Pl) (x : ry_C) : Bool := match pl.2.2, x with
  | .inl ll, .inl (_, fs) => rz_run (fun j => match bx_n2 ll j with
    | some t => rz_ok t (rz_sl x j)
    | none => false) fs.length 0
  | .inr ss, .inr (_, n, df, ov) => rz_one ss n df ov || (rz_many ss n df ov || rz_blk (fun j => rz_num (ry_gt ov df j)) ss n (Nat.div n 64 + 1) 0)
  | _, _ => false
noncomputable def rz_w (x : ry_C) : Nat := match x with
  | .inl (_, fs) => fs.length
  | .inr (_, n, _, _) => n
theorem rz_sp_ok {pl : bx_Pl} {x : ry_C} (h : rz_sp pl x = true) (j : Nat) (hj : j < rz_w x) : bx_okT rxL (bx_dT pl (j : Int)) (rz_sl x j) := by
  unfold rz_sp at h
  unfold bx_dT
  split at h
  · rename_i ll ci fs hp
    rw [hp]
    dsimp only
    have h1 := rz_run_ok h j (Nat.zero_le j) (by rw [Nat.zero_add]; exact hj)
    rw [Int.toNat_natCast]
    split at h1
    · rename_i t ht
      rw [ht]
      exact rz_ok_ok h1
    · cases h1
  · rename_i ss tc n df ov hp
    rw [hp]
    dsimp only
    rw [Bool.or_eq_true] at h
    have hj : j < n := hj
    rw [Bool.or_eq_true] at h
    rcases h with h | h | h
    · exact rz_ok_ok (rz_one_ok h j hj)
    · exact rz_ok_ok (rz_many_ok h j hj)
    · exact rz_ok_ok (rz_blk_ok h j (by omega) (by
        have := Nat.div_add_mod n 64
        have h2 := Nat.mod_lt n (show 64 > 0 by decide)
        show j < 64 * (0 + (n / 64 + 1))
        omega) hj)
  · cases h
noncomputable def rz_chk (p : Nat) (x : ry_C) : Bool := match rxPf p with
  | some pl => rz_cl pl.1 x && rz_sp pl x
  | none => false
noncomputable def rz_chks : List ry_C → Nat → Bool
  | [], _ => true
  | x :: l, p => match rz_chk p x with
    | true => rz_chks l (p + 1)
    | false => false
theorem rz_chks_ok : ∀ {l : List ry_C} {p : Nat}, rz_chks l p = true → ∀ (k : Nat) (x : ry_C), l[k]? = some x → rz_chk (p + k) x = true
  | [], _, _, k, x, h => by cases h
  | y :: l, p, h, k, x, hx => by
    rw [rz_chks] at h
    split at h
    · rename_i hy
      cases k with
      | zero =>
        cases hx
        exact hy
      | succ k =>
        have := rz_chks_ok h k x hx
        rw [show p + 1 + k = p + (k + 1) by omega] at this
        exact this
    · cases h
theorem rzChk : rz_chks ryH 0 = true := by decide +kernel
theorem rzLen : ryH.length = 522 := by decide +kernel
theorem rzNP : rxL.2.1 = 522 := by decide +kernel
theorem rz_w_cl {k : bx_K} {x : ry_C} (h : rz_cl k x = true) : bx_wd k = rz_w x := by
  unfold rz_cl at h
  split at h
  · rw [Bool.and_eq_true] at h
    exact (rz_ks_ok h.2).1
  · rw [Bool.and_eq_true, Bool.and_eq_true, Nat.beq_eq, Nat.beq_eq] at h
    exact h.2.1
  · cases h
theorem rz_place {p : Nat} (hp : p < 522) : ∃ (x : ry_C) (pl : bx_Pl), ryH[p]? = some x ∧ rxPf p = some pl ∧ rz_cl pl.1 x = true ∧ rz_sp pl x = true ∧ rxL.1 p = pl.1 ∧ (∀ j : Int, rxL.2.2.1 p j = bx_dT pl j) ∧ ∀ j : Nat, rzS p (j : Int) = rz_sl x j := by
  have hl : p < ryH.length := by rw [rzLen]; exact hp
  have hx : ryH[p]? = some ryH[p] := List.getElem?_eq_getElem hl
  generalize ryH[p] = x at hx
  have h := rz_chks_ok rzChk p x hx
  rw [Nat.zero_add] at h
  unfold rz_chk at h
  split at h
  · rename_i pl hpl
    rw [Bool.and_eq_true] at h
    refine ⟨x, pl, hx, hpl, h.1, h.2, ?_, fun j => ?_, fun j => ?_⟩
    · show (match rxPf p with
        | some x => x.1
        | none => .inr (0, 0, 0) : bx_K) = pl.1
      rw [hpl]
    · show (match rxPf p with
        | some x => bx_dT x j
        | none => (0, 1, 0) : bx_T) = bx_dT pl j
      rw [hpl]
    · unfold rzS
      rw [hx]
      dsimp only
      rw [Int.toNat_natCast]
  · cases h
theorem rzInv : bx_Inv rxL rzS := fun p j hp hj => by
  rw [rzNP] at hp
  obtain ⟨x, pl, h1, h2, h3, h4, h5, h6, h7⟩ := rz_place hp
  rw [h5, rz_w_cl h3] at hj
  rw [h6, h7]
  exact rz_sp_ok h4 j hj
theorem rz_W0 {Dg : va_G} {A : Nat → Prop} {s : State} {xa : Nat → Nat} {N : Nat} {r : Nat → Int} {ad : Nat → Nat} {H : Heap} {f : Nat → Nat → Bool} (hr : r 0 = 0) (h : ry_W0 Dg vwCl A s xa N ryH r ad H) : bx_W0 (Dg, rxL, rzS, f) vwCl A s ad rzS H := by
  obtain ⟨ws, tys, hK, hP, hD, hl, hc⟩ := h
  refine ⟨ws, tys, rzInv, hK, hP, hD, hl.trans (rzLen.trans rzNP.symm), fun p hp => ?_⟩
  obtain ⟨x, pl, h1, h2, h3, h4, h5, h6, h7⟩ := rz_place (show p < 522 by rw [← rzNP]; exact hp)
  obtain ⟨-, e, e1, e2⟩ := hc p x h1
  refine ⟨e, e1, ?_⟩
  show bx_cell vwCl tys ad (rxL.1 p) (rzS p) e
  rw [h5]
  exact rz_cell h3 hr h7 e2
theorem rz_tq0 {R : Int → Int} (h : ∀ n : Int, 0 ≤ n → n ≤ 5 → R (780 + 900 * n + 1) = 0) : rxTq R := fun n k n0 n5 k0 k1 _ => by
  rw [h n n0 n5] at k1
  omega
theorem rzX : rxX rzS := by
  have h0 : ∀ n : Int, 0 ≤ n → n ≤ 5 → n = 0 ∨ n = 1 ∨ n = 2 ∨ n = 3 ∨ n = 4 ∨ n = 5 := fun n a b => by omega
  refine ⟨rz_tq0 fun n a b => ?_, rz_tq0 fun n a b => ?_, rz_tq0 fun n a b => ?_, by decide +kernel⟩
  · rcases h0 n a b with rfl | rfl | rfl | rfl | rfl | rfl <;> decide +kernel
  · rcases h0 n a b with rfl | rfl | rfl | rfl | rfl | rfl <;> decide +kernel
  · rcases h0 n a b with rfl | rfl | rfl | rfl | rfl | rfl <;> decide +kernel
end
section
theorem bx_mc1 (k : bx_K) (i : Nat) : (bx_mc k i).1 = (bx_mc k 0).1 := by
  cases k with
  | inl q => rfl
  | inr q => rfl
theorem rx_frH {S T : Nat → Int → Int} {c f : Nat} (v : ∀ (p i : Nat), p < rxL.2.1 → i < bx_wd (rxL.1 p) → bx_mc (rxL.1 p) i ≠ (c, f) → T p (i : Int) = S p (i : Int)) {l : List Nat} (hl : l.all (fun p => Nat.blt p 522 && !(Nat.beq (bx_mc (rxL.1 p) 0).1 c)) = true) {p i : Nat} (hp : p ∈ l) (hi : i < bx_wd (rxL.1 p)) : T p (i : Int) = S p (i : Int) := by
  have h := List.all_eq_true.mp hl p hp
  rw [Bool.and_eq_true, Nat.blt_eq, Bool.not_eq_true'] at h
  refine v p i h.1 hi fun e => ?_
  have e1 : (bx_mc (rxL.1 p) 0).1 = c := by rw [← bx_mc1 (rxL.1 p) i, e]
  rw [e1, Nat.beq_refl] at h
  exact absurd h.2 (by decide)
noncomputable def rxNum : List Nat := [1, 2, 3, 5, 6, 7, 8, 9, 10, 11, 13, 14, 15, 16, 17, 19, 138, 139, 140, 142, 143, 144, 145, 146, 147, 148, 150, 151, 152, 153, 154, 156, 274, 275, 276, 278, 279, 280, 281, 282, 283, 284, 286, 287, 288, 289, 290, 292]
noncomputable def rxFl1 : List Nat := [138, 139, 140, 142, 143, 144, 145, 146, 147, 148, 150, 151, 152, 153, 154, 156, 274, 275, 276, 278, 279, 280, 281, 282, 283, 284, 286, 287, 288, 289, 290, 292]
theorem rxFl1_in : ∀ q ∈ rxFl1, q ∈ rxNum := by decide
noncomputable def rxFl138 : List Nat := [1, 2, 3, 5, 6, 7, 8, 9, 10, 11, 13, 14, 15, 16, 17, 19, 274, 275, 276, 278, 279, 280, 281, 282, 283, 284, 286, 287, 288, 289, 290, 292]
theorem rxFl138_in : ∀ q ∈ rxFl138, q ∈ rxNum := by decide
noncomputable def rxFl274 : List Nat := [1, 2, 3, 5, 6, 7, 8, 9, 10, 11, 13, 14, 15, 16, 17, 19, 138, 139, 140, 142, 143, 144, 145, 146, 147, 148, 150, 151, 152, 153, 154, 156]
theorem rxFl274_in : ∀ q ∈ rxFl274, q ∈ rxNum := by decide
end
section
noncomputable def rxCPC142x5 : bx_Ct := ([(3, (1, 142, 0)), (3, (1, 5, 0))], none, [(5, 0), (1003, 0), (1004, 0), (1005, 0)], 1, [])
noncomputable def rxIPC142x5_0 (S0 : Nat → Int → Int) (ws : List Int) (S : Nat → Int → Int) : Prop := S = S0 ∧ ws = [142, 5]
noncomputable def rxmPC142x5_0 (S0 : Nat → Int → Int) (ws : List Int) (S : Nat → Int → Int) : Nat := 100
noncomputable def rxzPC142x5_0 : rx_Z := ([(0, 0), (0, 0), (0, 0), (0, 0), (0, 0), (0, 0), (0, 0), (0, 0)], [], [], 0, 0, 0, [(0, .inr (3, (0, 142))), (1, .inr (3, (0, 5)))], [])
noncomputable def rxIPC142x5_1 (S0 : Nat → Int → Int) (ws : List Int) (S : Nat → Int → Int) : Prop := S 142 0 = S0 5 0 ∧ (∀ (p : Nat) (j : Int), p ≠ 142 → S p j = S0 p j)
noncomputable def rxmPC142x5_1 (S0 : Nat → Int → Int) (ws : List Int) (S : Nat → Int → Int) : Nat := 90
noncomputable def rxzPC142x5_1 : rx_Z := ([(0, 0), (0, 0), (0, 0), (0, 0), (0, 0), (0, 0), (0, 0), (0, 0)], [], [], 0, 0, 20, [(0, .inr (3, (0, 142))), (1, .inr (3, (0, 5)))], [.inr (0, (0, 8)), .inr (0, (0, 0)), .inr (3, (0, 143)), .inr (0, (0, 0)), .inr (3, (0, 6))])
noncomputable def rxIPC142x5_2 (S0 : Nat → Int → Int) (ws : List Int) (S : Nat → Int → Int) : Prop := S 142 0 = S0 5 0 ∧ (∀ j : Int, 0 ≤ j → j < 8 → S 143 j = S0 6 j) ∧ (∀ (p : Nat) (j : Int), p ≠ 142 → p ≠ 143 → S p j = S0 p j)
noncomputable def rxmPC142x5_2 (S0 : Nat → Int → Int) (ws : List Int) (S : Nat → Int → Int) : Nat := 85
noncomputable def rxzPC142x5_2 : rx_Z := ([(0, 0), (0, 0), (0, 0), (0, 0), (0, 0), (0, 0), (0, 0), (0, 0)], [], [], 0, 0, 23, [(0, .inr (3, (0, 142))), (1, .inr (3, (0, 5)))], [])
noncomputable def rxIPC142x5_3 (S0 : Nat → Int → Int) (ws : List Int) (S : Nat → Int → Int) : Prop := S 142 0 = S0 5 0 ∧ (∀ j : Int, 0 ≤ j → j < 8 → S 143 j = S0 6 j) ∧ (∀ (p : Nat) (j : Int), p ≠ 142 → p ≠ 143 → S p j = S0 p j)
noncomputable def rxmPC142x5_3 (S0 : Nat → Int → Int) (ws : List Int) (S : Nat → Int → Int) : Nat := 80
noncomputable def rxzPC142x5_3 : rx_Z := ([(0, 0), (0, 0), (0, 0), (0, 0), (0, 0), (0, 0), (0, 0), (0, 0)], [], [], 0, 0, 35, [(0, .inr (3, (0, 142))), (1, .inr (3, (0, 5)))], [.inr (0, (0, 8)), .inr (0, (0, 0)), .inr (3, (0, 144)), .inr (0, (0, 0)), .inr (3, (0, 7))])
noncomputable def rxIPC142x5_4 (S0 : Nat → Int → Int) (ws : List Int) (S : Nat → Int → Int) : Prop := S 142 0 = S0 5 0 ∧ (∀ j : Int, 0 ≤ j → j < 8 → S 143 j = S0 6 j) ∧ (∀ j : Int, 0 ≤ j → j < 8 → S 144 j = S0 7 j) ∧ (∀ (p : Nat) (j : Int), p ≠ 142 → p ≠ 143 → p ≠ 144 → S p j = S0 p j)
noncomputable def rxmPC142x5_4 (S0 : Nat → Int → Int) (ws : List Int) (S : Nat → Int → Int) : Nat := 75
noncomputable def rxzPC142x5_4 : rx_Z := ([(0, 0), (0, 0), (0, 0), (0, 0), (0, 0), (0, 0), (0, 0), (0, 0)], [], [], 0, 0, 38, [(0, .inr (3, (0, 142))), (1, .inr (3, (0, 5)))], [])
noncomputable def rxIPC142x5_5 (S0 : Nat → Int → Int) (ws : List Int) (S : Nat → Int → Int) : Prop := S 142 0 = S0 5 0 ∧ (∀ j : Int, 0 ≤ j → j < 8 → S 143 j = S0 6 j) ∧ (∀ j : Int, 0 ≤ j → j < 8 → S 144 j = S0 7 j) ∧ (∀ (p : Nat) (j : Int), p ≠ 142 → p ≠ 143 → p ≠ 144 → S p j = S0 p j)
noncomputable def rxmPC142x5_5 (S0 : Nat → Int → Int) (ws : List Int) (S : Nat → Int → Int) : Nat := 70
noncomputable def rxzPC142x5_5 : rx_Z := ([(0, 0), (0, 0), (0, 0), (0, 0), (0, 0), (0, 0), (0, 0), (0, 0)], [], [], 0, 0, 50, [(0, .inr (3, (0, 142))), (1, .inr (3, (0, 5)))], [.inr (0, (0, 8)), .inr (0, (0, 0)), .inr (3, (0, 145)), .inr (0, (0, 0)), .inr (3, (0, 8))])
noncomputable def rxIPC142x5_6 (S0 : Nat → Int → Int) (ws : List Int) (S : Nat → Int → Int) : Prop := S 142 0 = S0 5 0 ∧ (∀ j : Int, 0 ≤ j → j < 8 → S 143 j = S0 6 j) ∧ (∀ j : Int, 0 ≤ j → j < 8 → S 144 j = S0 7 j) ∧ (∀ j : Int, 0 ≤ j → j < 8 → S 145 j = S0 8 j) ∧ (∀ (p : Nat) (j : Int), p ≠ 142 → p ≠ 143 → p ≠ 144 → p ≠ 145 → S p j = S0 p j)
noncomputable def rxmPC142x5_6 (S0 : Nat → Int → Int) (ws : List Int) (S : Nat → Int → Int) : Nat := 65
noncomputable def rxzPC142x5_6 : rx_Z := ([(0, 0), (0, 0), (0, 0), (0, 0), (0, 0), (0, 0), (0, 0), (0, 0)], [], [], 0, 0, 53, [(0, .inr (3, (0, 142))), (1, .inr (3, (0, 5)))], [])
noncomputable def rxoPC142x5_0_0 : bx_HO := (([(0, 0), (0, 0), (0, 0), (0, 0), (0, 0), (0, 0), (0, 0), (0, 0), (0, 8)], [], [(((0, 142), 1), .inr (3, (0, 143))), (((0, 5), 1), .inr (3, (0, 6))), (((0, 0), 1851192626986356797424340330377019318111018015026043177637117955000000), .inr (0, (8, 0))), (((0, 142), 0), .inr (0, (8, 0))), (((0, 0), 1851192626986356797424340330377019318111018015026043177556312064000000), .inr (0, (8, 0)))], 0, 0, 20, [(0, .inr (3, (0, 142))), (1, .inr (3, (0, 5)))], [.inr (0, (0, 8)), .inr (0, (0, 0)), .inr (3, (0, 143)), .inr (0, (0, 0)), .inr (3, (0, 6))]), [], [], [(0, 0), (0, 0), (0, 0), (0, 0), (0, 0), (0, 0), (0, 0), (0, 0)], 1)
noncomputable def rxoPC142x5_2_0 : bx_HO := (([(0, 0), (0, 0), (0, 0), (0, 0), (0, 0), (0, 0), (0, 0), (0, 0)], [], [(((0, 142), 2), .inr (3, (0, 144))), (((0, 5), 2), .inr (3, (0, 7)))], 0, 0, 35, [(0, .inr (3, (0, 142))), (1, .inr (3, (0, 5)))], [.inr (0, (0, 8)), .inr (0, (0, 0)), .inr (3, (0, 144)), .inr (0, (0, 0)), .inr (3, (0, 7))]), [], [], [(0, 0), (0, 0), (0, 0), (0, 0), (0, 0), (0, 0), (0, 0), (0, 0)], 3)
noncomputable def rxoPC142x5_4_0 : bx_HO := (([(0, 0), (0, 0), (0, 0), (0, 0), (0, 0), (0, 0), (0, 0), (0, 0)], [], [(((0, 142), 3), .inr (3, (0, 145))), (((0, 5), 3), .inr (3, (0, 8)))], 0, 0, 50, [(0, .inr (3, (0, 142))), (1, .inr (3, (0, 5)))], [.inr (0, (0, 8)), .inr (0, (0, 0)), .inr (3, (0, 145)), .inr (0, (0, 0)), .inr (3, (0, 8))]), [], [], [(0, 0), (0, 0), (0, 0), (0, 0), (0, 0), (0, 0), (0, 0), (0, 0)], 5)
noncomputable def rxePC142x5_6_0 : rx_End × List (Nat × Int × Int) := (([(0, 0), (0, 0), (0, 0), (0, 0), (0, 0), (0, 0), (0, 0), (0, 0)], [], [], none), [])
noncomputable def rxYPC142x5 : List bx_HE := [(rxzPC142x5_0, [rxoPC142x5_0_0], []), (rxzPC142x5_1, [], []), (rxzPC142x5_2, [rxoPC142x5_2_0], []), (rxzPC142x5_3, [], []), (rxzPC142x5_4, [rxoPC142x5_4_0], []), (rxzPC142x5_5, [], []), (rxzPC142x5_6, [], [rxePC142x5_6_0])]
noncomputable def rxUPC142x5 (q : bx_HE) : Bool := Nat.beq (rx_zpc q.1) 20 || Nat.beq (rx_zpc q.1) 35 || Nat.beq (rx_zpc q.1) 50
noncomputable def rxYBPC142x5 : bx_B := (rxV, rxNP, rxDmf, bx_mdH rxCPC142x5.2.2.1)
set_option maxRecDepth 100000 in
theorem rxYcPC142x5 : bx_chkH rxYBPC142x5 rxM108 rxCPC142x5 rxYPC142x5 (rxUPC142x5, fun cut z => rx_ex2 (rxCT rxYBPC142x5 rxCnE) cut 30000 rxCPC142x5.2.2.2.1 108 z) = true := by decide +kernel
noncomputable def rxIPC142x5 (S0 : Nat → Int → Int) (ws : List Int) (i : Nat) : bx_SP := fun S r => match i with | 0 => rxIPC142x5_0 S0 ws S | 1 => rxIPC142x5_1 S0 ws S | 2 => rxIPC142x5_2 S0 ws S | 3 => rxIPC142x5_3 S0 ws S | 4 => rxIPC142x5_4 S0 ws S | 5 => rxIPC142x5_5 S0 ws S | 6 => rxIPC142x5_6 S0 ws S | _ => False
noncomputable def rxmPC142x5 (S0 : Nat → Int → Int) (ws : List Int) (i : Nat) (S : Nat → Int → Int) (r : Nat → Int) : Nat := match i with | 0 => rxmPC142x5_0 S0 ws S | 1 => rxmPC142x5_1 S0 ws S | 2 => rxmPC142x5_2 S0 ws S | 3 => rxmPC142x5_3 S0 ws S | 4 => rxmPC142x5_4 S0 ws S | 5 => rxmPC142x5_5 S0 ws S | 6 => rxmPC142x5_6 S0 ws S | _ => 0
noncomputable def rxPPC142x5 (S0 : Nat → Int → Int) (ws : List Int) : Prop := True
noncomputable def rxPSPC142x5 (S0 : Nat → Int → Int) (ws : List Int) (S : Nat → Int → Int) (w : Option Int) : Prop := w = none ∧ S 142 0 = S0 5 0 ∧ (∀ j : Int, 0 ≤ j → j < 8 → S 143 j = S0 6 j) ∧ (∀ j : Int, 0 ≤ j → j < 8 → S 144 j = S0 7 j) ∧ (∀ j : Int, 0 ≤ j → j < 8 → S 145 j = S0 8 j) ∧ (∀ (p : Nat) (j : Int), p ≠ 142 → p ≠ 143 → p ≠ 144 → p ≠ 145 → S p j = S0 p j)
theorem rxtPC142x5_1 {S0 : Nat → Int → Int} {ws : List Int} {S : Nat → Int → Int} (hP : rxPPC142x5 S0 ws) (hin : bx_same rxL (bx_mdl rxCPC142x5.2.2.1) S0 S) (I0 : bx_Inv rxL S) (hinv : rxIPC142x5_1 S0 ws S)  : rxIPC142x5_2 S0 ws (bx_cpS S 6 143 8) ∧ rxmPC142x5_2 S0 ws (bx_cpS S 6 143 8) < rxmPC142x5_1 S0 ws S := by
  obtain ⟨h0, hf⟩ := hinv
  refine ⟨⟨?_, ?_, ?_⟩, by unfold rxmPC142x5_1 rxmPC142x5_2; omega⟩
  · rw [bx_cpS_ne (by decide)]; exact h0
  · intro j a b; rw [bx_cpS_in a b]; exact hf _ j (by decide)
  · intro p j n0 n1; rw [bx_cpS_ne n1]; exact hf p j n0
theorem rxsPC142x5_1 {X : (Nat → Int → Int) → Prop} {S0 : Nat → Int → Int} {ws : List Int} (hP : rxPPC142x5 S0 ws) (hX : ∀ S S1 : Nat → Int → Int, X S → bx_same rxL (bx_mdl rxCPC142x5.2.2.1) S S1 → X S1) : rx_obY X S0 rxCPC142x5.2.2.1 (rxIPC142x5 S0 ws) (rxmPC142x5 S0 ws) 1 2 rxzPC142x5_1 6 143 8 := by
  intro S r hinv hXS I0 hin hs_ hf_
  have b_ := bx_bds_sat hs_
  have f_ := bx_fcl_ok hs_.1 hf_
  have g := rxtPC142x5_1 hP hin I0 hinv 
  exact ⟨g.1, g.2, hX _ _ hXS (rx_same_cp (fun _ _ _ _ _ => rfl) (g1 := 3) rfl (by decide +kernel)), rx_same_cp hin (g1 := 3) rfl (by decide +kernel)⟩
theorem rxtPC142x5_3 {S0 : Nat → Int → Int} {ws : List Int} {S : Nat → Int → Int} (hP : rxPPC142x5 S0 ws) (hin : bx_same rxL (bx_mdl rxCPC142x5.2.2.1) S0 S) (I0 : bx_Inv rxL S) (hinv : rxIPC142x5_3 S0 ws S)  : rxIPC142x5_4 S0 ws (bx_cpS S 7 144 8) ∧ rxmPC142x5_4 S0 ws (bx_cpS S 7 144 8) < rxmPC142x5_3 S0 ws S := by
  obtain ⟨h0, h1, hf⟩ := hinv
  refine ⟨⟨?_, ?_, ?_, ?_⟩, by unfold rxmPC142x5_3 rxmPC142x5_4; omega⟩
  · rw [bx_cpS_ne (by decide)]; exact h0
  · intro j a b; rw [bx_cpS_ne (by decide)]; exact h1 j a b
  · intro j a b; rw [bx_cpS_in a b]; exact hf _ j (by decide) (by decide)
  · intro p j n0 n1 n2; rw [bx_cpS_ne n2]; exact hf p j n0 n1
theorem rxsPC142x5_3 {X : (Nat → Int → Int) → Prop} {S0 : Nat → Int → Int} {ws : List Int} (hP : rxPPC142x5 S0 ws) (hX : ∀ S S1 : Nat → Int → Int, X S → bx_same rxL (bx_mdl rxCPC142x5.2.2.1) S S1 → X S1) : rx_obY X S0 rxCPC142x5.2.2.1 (rxIPC142x5 S0 ws) (rxmPC142x5 S0 ws) 3 4 rxzPC142x5_3 7 144 8 := by
  intro S r hinv hXS I0 hin hs_ hf_
  have b_ := bx_bds_sat hs_
  have f_ := bx_fcl_ok hs_.1 hf_
  have g := rxtPC142x5_3 hP hin I0 hinv 
  exact ⟨g.1, g.2, hX _ _ hXS (rx_same_cp (fun _ _ _ _ _ => rfl) (g1 := 4) rfl (by decide +kernel)), rx_same_cp hin (g1 := 4) rfl (by decide +kernel)⟩
theorem rxtPC142x5_5 {S0 : Nat → Int → Int} {ws : List Int} {S : Nat → Int → Int} (hP : rxPPC142x5 S0 ws) (hin : bx_same rxL (bx_mdl rxCPC142x5.2.2.1) S0 S) (I0 : bx_Inv rxL S) (hinv : rxIPC142x5_5 S0 ws S)  : rxIPC142x5_6 S0 ws (bx_cpS S 8 145 8) ∧ rxmPC142x5_6 S0 ws (bx_cpS S 8 145 8) < rxmPC142x5_5 S0 ws S := by
  obtain ⟨h0, h1, h2, hf⟩ := hinv
  refine ⟨⟨?_, ?_, ?_, ?_, ?_⟩, by unfold rxmPC142x5_5 rxmPC142x5_6; omega⟩
  · rw [bx_cpS_ne (by decide)]; exact h0
  · intro j a b; rw [bx_cpS_ne (by decide)]; exact h1 j a b
  · intro j a b; rw [bx_cpS_ne (by decide)]; exact h2 j a b
  · intro j a b; rw [bx_cpS_in a b]; exact hf _ j (by decide) (by decide) (by decide)
  · intro p j n0 n1 n2 n3; rw [bx_cpS_ne n3]; exact hf p j n0 n1 n2
theorem rxsPC142x5_5 {X : (Nat → Int → Int) → Prop} {S0 : Nat → Int → Int} {ws : List Int} (hP : rxPPC142x5 S0 ws) (hX : ∀ S S1 : Nat → Int → Int, X S → bx_same rxL (bx_mdl rxCPC142x5.2.2.1) S S1 → X S1) : rx_obY X S0 rxCPC142x5.2.2.1 (rxIPC142x5 S0 ws) (rxmPC142x5 S0 ws) 5 6 rxzPC142x5_5 8 145 8 := by
  intro S r hinv hXS I0 hin hs_ hf_
  have b_ := bx_bds_sat hs_
  have f_ := bx_fcl_ok hs_.1 hf_
  have g := rxtPC142x5_5 hP hin I0 hinv 
  exact ⟨g.1, g.2, hX _ _ hXS (rx_same_cp (fun _ _ _ _ _ => rfl) (g1 := 5) rfl (by decide +kernel)), rx_same_cp hin (g1 := 5) rfl (by decide +kernel)⟩
theorem rxcPC142x5_0_0 {S0 : Nat → Int → Int} {ws : List Int} {S : Nat → Int → Int} {x8 : Int} (hP : rxPPC142x5 S0 ws) (hin : bx_same rxL (bx_mdl rxCPC142x5.2.2.1) S0 S) (I0 : bx_Inv rxL S) (hinv : rxIPC142x5_0 S0 ws S) (l8 : 0 ≤ x8) (u8 : x8 ≤ 8) (e1 : S 5 0 = x8) : (True) ∧ (True) ∧ rxIPC142x5_1 S0 ws (bx_up S 142 0 x8) ∧ rxmPC142x5_1 S0 ws (bx_up S 142 0 x8) < rxmPC142x5_0 S0 ws S := by
  obtain ⟨rfl, hw⟩ := hinv
  exact ⟨trivial, trivial, ⟨by rw [bx_up_at]; exact e1.symm, fun p j n0 => congrFun (bx_up_row n0) j⟩, by unfold rxmPC142x5_0 rxmPC142x5_1; omega⟩
theorem rxgPC142x5_0_0 {X : (Nat → Int → Int) → Prop} {S0 : Nat → Int → Int} {ws : List Int} (hP : rxPPC142x5 S0 ws) : bx_obC rxL X S0 rxCPC142x5.2.2.1 (rxIPC142x5 S0 ws) (rxmPC142x5 S0 ws) 0 rxzPC142x5_0 rxoPC142x5_0_0 := by
  intro S S_p r r_p hinv hX hin hsm_ hseg
  obtain ⟨I0, I1, h0_, hr_, b_, f_, d_⟩ := bx_cl (evs := [(1, (0, 142), (0, 0), .inr (0, (8, 0))), (0, (0, 5), (0, 0), .inr (0, (8, 0)))]) (fvs := []) hseg (by decide +kernel) (by decide +kernel)
  have hinv : rxIPC142x5_0 S0 ws S := hinv
  obtain ⟨⟨l8, u8⟩, -⟩ := b_
  obtain ⟨T0, ⟨e1, w_⟩, w0⟩ := d_
  subst w0
  subst w_
  have g := rxcPC142x5_0_0 hP hin I0 hinv l8 u8 e1
  refine ⟨bx_narP_ok (l := []) g.1, bx_nfP_ok h0_ (fvs := []) (by decide +kernel) g.2.1, ?_, ?_⟩
  · show rxIPC142x5_1 S0 ws (bx_up T0 142 (0) (r_p 8))
    exact g.2.2.1
  · show rxmPC142x5_1 S0 ws (bx_up T0 142 (0) (r_p 8)) < rxmPC142x5_0 S0 ws T0
    exact g.2.2.2
theorem rxcPC142x5_2_0 {S0 : Nat → Int → Int} {ws : List Int} {S : Nat → Int → Int} (hP : rxPPC142x5 S0 ws) (hin : bx_same rxL (bx_mdl rxCPC142x5.2.2.1) S0 S) (I0 : bx_Inv rxL S) (hinv : rxIPC142x5_2 S0 ws S)  : (True) ∧ (True) ∧ rxIPC142x5_3 S0 ws S ∧ rxmPC142x5_3 S0 ws S < rxmPC142x5_2 S0 ws S := by
  exact ⟨trivial, trivial, hinv, by unfold rxmPC142x5_2 rxmPC142x5_3; omega⟩
theorem rxgPC142x5_2_0 {X : (Nat → Int → Int) → Prop} {S0 : Nat → Int → Int} {ws : List Int} (hP : rxPPC142x5 S0 ws) : bx_obC rxL X S0 rxCPC142x5.2.2.1 (rxIPC142x5 S0 ws) (rxmPC142x5 S0 ws) 2 rxzPC142x5_2 rxoPC142x5_2_0 := by
  intro S S_p r r_p hinv hX hin hsm_ hseg
  obtain ⟨I0, I1, h0_, hr_, b_, f_, d_⟩ := bx_cl (evs := []) (fvs := []) hseg (by decide +kernel) (by decide +kernel)
  have hinv : rxIPC142x5_2 S0 ws S := hinv
  have w_ := d_
  subst w_
  have g := rxcPC142x5_2_0 hP hin I0 hinv 
  refine ⟨bx_narP_ok (l := []) g.1, bx_nfP_ok h0_ (fvs := []) (by decide +kernel) g.2.1, ?_, ?_⟩
  · show rxIPC142x5_3 S0 ws S_p
    exact g.2.2.1
  · show rxmPC142x5_3 S0 ws S_p < rxmPC142x5_2 S0 ws S_p
    exact g.2.2.2
theorem rxcPC142x5_4_0 {S0 : Nat → Int → Int} {ws : List Int} {S : Nat → Int → Int} (hP : rxPPC142x5 S0 ws) (hin : bx_same rxL (bx_mdl rxCPC142x5.2.2.1) S0 S) (I0 : bx_Inv rxL S) (hinv : rxIPC142x5_4 S0 ws S)  : (True) ∧ (True) ∧ rxIPC142x5_5 S0 ws S ∧ rxmPC142x5_5 S0 ws S < rxmPC142x5_4 S0 ws S := by
  exact ⟨trivial, trivial, hinv, by unfold rxmPC142x5_4 rxmPC142x5_5; omega⟩
theorem rxgPC142x5_4_0 {X : (Nat → Int → Int) → Prop} {S0 : Nat → Int → Int} {ws : List Int} (hP : rxPPC142x5 S0 ws) : bx_obC rxL X S0 rxCPC142x5.2.2.1 (rxIPC142x5 S0 ws) (rxmPC142x5 S0 ws) 4 rxzPC142x5_4 rxoPC142x5_4_0 := by
  intro S S_p r r_p hinv hX hin hsm_ hseg
  obtain ⟨I0, I1, h0_, hr_, b_, f_, d_⟩ := bx_cl (evs := []) (fvs := []) hseg (by decide +kernel) (by decide +kernel)
  have hinv : rxIPC142x5_4 S0 ws S := hinv
  have w_ := d_
  subst w_
  have g := rxcPC142x5_4_0 hP hin I0 hinv 
  refine ⟨bx_narP_ok (l := []) g.1, bx_nfP_ok h0_ (fvs := []) (by decide +kernel) g.2.1, ?_, ?_⟩
  · show rxIPC142x5_5 S0 ws S_p
    exact g.2.2.1
  · show rxmPC142x5_5 S0 ws S_p < rxmPC142x5_4 S0 ws S_p
    exact g.2.2.2
theorem rxdPC142x5_6_0 {S0 : Nat → Int → Int} {ws : List Int} {S : Nat → Int → Int} (hP : rxPPC142x5 S0 ws) (hin : bx_same rxL (bx_mdl rxCPC142x5.2.2.1) S0 S) (hin2 : bx_same rxL (bx_mdl rxCPC142x5.2.2.1) S S) (I0 : bx_Inv rxL S) (I1 : bx_Inv rxL S) (hinv : rxIPC142x5_6 S0 ws S)  : (True) ∧ rxPSPC142x5 S0 ws S none := by
  exact ⟨trivial, rfl, hinv⟩
theorem rxfPC142x5_6_0 {X : (Nat → Int → Int) → Prop} {S0 : Nat → Int → Int} {ws : List Int} (hP : rxPPC142x5 S0 ws) : bx_obE rxL X S0 rxCPC142x5.2.2.1 (rxIPC142x5 S0 ws) (rxPSPC142x5 S0 ws) 6 rxzPC142x5_6 rxePC142x5_6_0 := by
  intro S S_p r r_p hinv hX hin hsm_ hseg
  obtain ⟨I0, I1, h0_, hr_, b_, f_, d_⟩ := bx_cl (evs := []) (fvs := []) hseg (by decide +kernel) (by decide +kernel)
  have hinv : rxIPC142x5_6 S0 ws S := hinv
  have w_ := d_
  subst w_
  have g := rxdPC142x5_6_0 hP hin hsm_ I0 I1 hinv 
  refine ⟨bx_narP_ok (l := []) g.1, ?_⟩
  exact g.2
theorem rxgCPC142x5 {X : (Nat → Int → Int) → Prop} {S0 : Nat → Int → Int} {ws : List Int} (hP : rxPPC142x5 S0 ws) : bx_allI (fun i q => rxUPC142x5 q = true ∨ bx_allP (fun o => bx_obC rxL X S0 rxCPC142x5.2.2.1 (rxIPC142x5 S0 ws) (rxmPC142x5 S0 ws) i q.1 o) q.2.1) 0 rxYPC142x5 := ⟨Or.inr ⟨rxgPC142x5_0_0 hP, trivial⟩, Or.inl rfl, Or.inr ⟨rxgPC142x5_2_0 hP, trivial⟩, Or.inl rfl, Or.inr ⟨rxgPC142x5_4_0 hP, trivial⟩, Or.inl rfl, Or.inr trivial, trivial⟩
theorem rxgEPC142x5 {X : (Nat → Int → Int) → Prop} {S0 : Nat → Int → Int} {ws : List Int} (hP : rxPPC142x5 S0 ws) : bx_allI (fun i q => rxUPC142x5 q = true ∨ bx_allP (fun E => bx_obE rxL X S0 rxCPC142x5.2.2.1 (rxIPC142x5 S0 ws) (rxPSPC142x5 S0 ws) i q.1 E) q.2.2) 0 rxYPC142x5 := ⟨Or.inr trivial, Or.inl rfl, Or.inr trivial, Or.inl rfl, Or.inr trivial, Or.inl rfl, Or.inr ⟨rxfPC142x5_6_0 hP, trivial⟩, trivial⟩
theorem rxuPC142x5 {PX : State → Prop} {Dg : va_G} {A : Nat → Prop} {ad xa : Nat → Nat} {l : Launch} {X : (Nat → Int → Int) → Prop} (hPX : rx_PXOK rxNW A PX) (hX : ∀ S S1 : Nat → Int → Int, X S → bx_same rxL (bx_mdl rxCPC142x5.2.2.1) S S1 → X S1) {S0 : Nat → Int → Int} {ws : List Int} (hP : rxPPC142x5 S0 ws) : ∀ (i : Nat) (q : bx_HE), rxYPC142x5[i]? = some q → rxUPC142x5 q = true → ∀ {p : Program} {e : Env} {R : Room} {s : State} {m : MethodId} {args : Array Value} {below : List Frame} {meth : Method} {c : Code} {Q : State → Prop} {H0 : Heap}, rx_Fr rxG rxNW rxAO PX p s m args meth c rxM108 → (∀ q, H0.size ≤ q → A q) → H0 = s.heap → rxM108.2.2.2.2.2.2.1 ≤ R.cells → rxM108.2.2.2.2.2.2.2 ≤ R.slots → rxCPC142x5.2.2.2.1 ≤ R.frames → rxCPC142x5.2.2.2.1 * 40 ≤ R.locals → bx_Step p l e R s m args below meth c Q Dg rxL X vwCl A xa H0 ad rxM108 rxYPC142x5 (rxIPC142x5 S0 ws) (rxmPC142x5 S0 ws) S0 rxCPC142x5.2.2.1 i q := by
  intro i q hq hus p e R s m args below meth c Q H0 hF hA hH0 hmc hms hd hdl
  match i, hq with
  | 0, hq =>
    cases hq
    exact absurd (show false = true from hus) Bool.false_ne_true
  | 1, hq =>
    cases hq
    exact rx_stepY (i_p := 2) (idx := 25) (P0 := 6) (P1 := 143) (n := 8) (g0 := 3) (g1 := 3) (t := []) hF rfl (Nat.le_trans (by decide) hd) (Nat.le_trans (by decide) hdl) (by decide +kernel) (by decide +kernel) rfl rfl (by decide) (by decide) rfl rfl (by decide) (by decide) rfl rfl (by decide) (by decide) rfl rfl (rxsPC142x5_1 hP hX)
  | 2, hq =>
    cases hq
    exact absurd (show false = true from hus) Bool.false_ne_true
  | 3, hq =>
    cases hq
    exact rx_stepY (i_p := 4) (idx := 25) (P0 := 7) (P1 := 144) (n := 8) (g0 := 4) (g1 := 4) (t := []) hF rfl (Nat.le_trans (by decide) hd) (Nat.le_trans (by decide) hdl) (by decide +kernel) (by decide +kernel) rfl rfl (by decide) (by decide) rfl rfl (by decide) (by decide) rfl rfl (by decide) (by decide) rfl rfl (rxsPC142x5_3 hP hX)
  | 4, hq =>
    cases hq
    exact absurd (show false = true from hus) Bool.false_ne_true
  | 5, hq =>
    cases hq
    exact rx_stepY (i_p := 6) (idx := 25) (P0 := 8) (P1 := 145) (n := 8) (g0 := 5) (g1 := 5) (t := []) hF rfl (Nat.le_trans (by decide) hd) (Nat.le_trans (by decide) hdl) (by decide +kernel) (by decide +kernel) rfl rfl (by decide) (by decide) rfl rfl (by decide) (by decide) rfl rfl (by decide) (by decide) rfl rfl (rxsPC142x5_5 hP hX)
  | 6, hq =>
    cases hq
    exact absurd (show false = true from hus) Bool.false_ne_true
  | n + 7, hq => cases hq
theorem rxQPC142x5 {PX : State → Prop} {Dg : va_G} {A : Nat → Prop} {ad xa : Nat → Nat} {l : Launch} {X : (Nat → Int → Int) → Prop} (hPX : rx_PXOK rxNW A PX) (hsl : ∀ s : State, PX s → ∀ o idx n : Nat, rxSl o idx = some n → ∃ tx : String, vk_R (rxNm o) idx tx (ad n) s)
    (hX : ∀ S S_p : Nat → Int → Int, X S → bx_same rxL (bx_mdl rxCPC142x5.2.2.1) S S_p → X S_p)
    (ih : ∀ (j2 : Nat) (ct2 : bx_Ct) (M2 : rx_Mt), ct2 ∈ rxCnE j2 → ct2.2.2.2.1 + 1 ≤ rxCPC142x5.2.2.2.1 → rxT.2.2.2.2.2 j2 = some M2 → bx_Con rxG rxNW rxAO PX Dg rxL X vwCl A ad l M2 ct2) : bx_ConP rxG rxNW rxAO PX Dg rxL X vwCl A ad l rxM108 rxCPC142x5 rxPPC142x5 rxPSPC142x5 :=
  rxQof (xa := xa) (Cn := rxCnE) (f := 30000) (j := 108) (tab := rxYPC142x5) (us := rxUPC142x5) hPX hsl hX ih rfl rxYcPC142x5 rxIPC142x5 rxmPC142x5
    (fun S0 ws r I0 I ht0 ht as he he1 hX0 hI0 hP hs ha => by
      have e := he.symm.trans (show bx_ent0 rxNP rxCPC142x5.1 bx_I0 [] = some ([(0, 0), (0, 0), (0, 0), (0, 0), (0, 0), (0, 0), (0, 0), (0, 0)], [], [.inr (3, (0, 142)), .inr (3, (0, 5))]) from rfl)
      cases e
      subst ha
      have h0 : r 0 = 0 := hs.1
      show rxIPC142x5_0 S0 _ S0
      refine ⟨rfl, ?_⟩
      simp only [List.map_cons, List.map_nil, bx_xv_ok h0]
      rfl)
    (fun S0 ws hP => rxuPC142x5 (xa := xa) hPX hX hP) (fun S0 ws hP => rxgCPC142x5 hP) (fun S0 ws hP => rxgEPC142x5 hP)
end
section
noncomputable def rxCDC151x14 : bx_Ct := ([(3, (1, 151, 0)), (3, (1, 14, 0))], none, [(2, 0), (1011, 0), (1012, 0), (1013, 0)], 1, [])
noncomputable def rxIDC151x14_0 (S0 : Nat → Int → Int) (ws : List Int) (S : Nat → Int → Int) : Prop := S = S0 ∧ ws = [151, 14]
noncomputable def rxmDC151x14_0 (S0 : Nat → Int → Int) (ws : List Int) (S : Nat → Int → Int) : Nat := 100
noncomputable def rxzDC151x14_0 : rx_Z := ([(0, 0), (0, 0), (0, 0), (0, 0), (0, 0), (0, 0), (0, 0), (0, 0)], [], [], 0, 0, 0, [(0, .inr (3, (0, 151))), (1, .inr (3, (0, 14)))], [])
noncomputable def rxIDC151x14_1 (S0 : Nat → Int → Int) (ws : List Int) (S : Nat → Int → Int) : Prop := S 151 0 = S0 14 0 ∧ (∀ (p : Nat) (j : Int), p ≠ 151 → S p j = S0 p j)
noncomputable def rxmDC151x14_1 (S0 : Nat → Int → Int) (ws : List Int) (S : Nat → Int → Int) : Nat := 90
noncomputable def rxzDC151x14_1 : rx_Z := ([(0, 0), (0, 0), (0, 0), (0, 0), (0, 0), (0, 0), (0, 0), (0, 0)], [], [], 0, 0, 20, [(0, .inr (3, (0, 151))), (1, .inr (3, (0, 14)))], [.inr (0, (0, 12)), .inr (0, (0, 0)), .inr (3, (0, 152)), .inr (0, (0, 0)), .inr (3, (0, 15))])
noncomputable def rxIDC151x14_2 (S0 : Nat → Int → Int) (ws : List Int) (S : Nat → Int → Int) : Prop := S 151 0 = S0 14 0 ∧ (∀ j : Int, 0 ≤ j → j < 12 → S 152 j = S0 15 j) ∧ (∀ (p : Nat) (j : Int), p ≠ 151 → p ≠ 152 → S p j = S0 p j)
noncomputable def rxmDC151x14_2 (S0 : Nat → Int → Int) (ws : List Int) (S : Nat → Int → Int) : Nat := 85
noncomputable def rxzDC151x14_2 : rx_Z := ([(0, 0), (0, 0), (0, 0), (0, 0), (0, 0), (0, 0), (0, 0), (0, 0)], [], [], 0, 0, 23, [(0, .inr (3, (0, 151))), (1, .inr (3, (0, 14)))], [])
noncomputable def rxIDC151x14_3 (S0 : Nat → Int → Int) (ws : List Int) (S : Nat → Int → Int) : Prop := S 151 0 = S0 14 0 ∧ (∀ j : Int, 0 ≤ j → j < 12 → S 152 j = S0 15 j) ∧ (∀ (p : Nat) (j : Int), p ≠ 151 → p ≠ 152 → S p j = S0 p j)
noncomputable def rxmDC151x14_3 (S0 : Nat → Int → Int) (ws : List Int) (S : Nat → Int → Int) : Nat := 80
noncomputable def rxzDC151x14_3 : rx_Z := ([(0, 0), (0, 0), (0, 0), (0, 0), (0, 0), (0, 0), (0, 0), (0, 0)], [], [], 0, 0, 35, [(0, .inr (3, (0, 151))), (1, .inr (3, (0, 14)))], [.inr (0, (0, 12)), .inr (0, (0, 0)), .inr (3, (0, 153)), .inr (0, (0, 0)), .inr (3, (0, 16))])
noncomputable def rxIDC151x14_4 (S0 : Nat → Int → Int) (ws : List Int) (S : Nat → Int → Int) : Prop := S 151 0 = S0 14 0 ∧ (∀ j : Int, 0 ≤ j → j < 12 → S 152 j = S0 15 j) ∧ (∀ j : Int, 0 ≤ j → j < 12 → S 153 j = S0 16 j) ∧ (∀ (p : Nat) (j : Int), p ≠ 151 → p ≠ 152 → p ≠ 153 → S p j = S0 p j)
noncomputable def rxmDC151x14_4 (S0 : Nat → Int → Int) (ws : List Int) (S : Nat → Int → Int) : Nat := 75
noncomputable def rxzDC151x14_4 : rx_Z := ([(0, 0), (0, 0), (0, 0), (0, 0), (0, 0), (0, 0), (0, 0), (0, 0)], [], [], 0, 0, 38, [(0, .inr (3, (0, 151))), (1, .inr (3, (0, 14)))], [])
noncomputable def rxIDC151x14_5 (S0 : Nat → Int → Int) (ws : List Int) (S : Nat → Int → Int) : Prop := S 151 0 = S0 14 0 ∧ (∀ j : Int, 0 ≤ j → j < 12 → S 152 j = S0 15 j) ∧ (∀ j : Int, 0 ≤ j → j < 12 → S 153 j = S0 16 j) ∧ (∀ (p : Nat) (j : Int), p ≠ 151 → p ≠ 152 → p ≠ 153 → S p j = S0 p j)
noncomputable def rxmDC151x14_5 (S0 : Nat → Int → Int) (ws : List Int) (S : Nat → Int → Int) : Nat := 70
noncomputable def rxzDC151x14_5 : rx_Z := ([(0, 0), (0, 0), (0, 0), (0, 0), (0, 0), (0, 0), (0, 0), (0, 0)], [], [], 0, 0, 50, [(0, .inr (3, (0, 151))), (1, .inr (3, (0, 14)))], [.inr (0, (0, 12)), .inr (0, (0, 0)), .inr (3, (0, 154)), .inr (0, (0, 0)), .inr (3, (0, 17))])
noncomputable def rxIDC151x14_6 (S0 : Nat → Int → Int) (ws : List Int) (S : Nat → Int → Int) : Prop := S 151 0 = S0 14 0 ∧ (∀ j : Int, 0 ≤ j → j < 12 → S 152 j = S0 15 j) ∧ (∀ j : Int, 0 ≤ j → j < 12 → S 153 j = S0 16 j) ∧ (∀ j : Int, 0 ≤ j → j < 12 → S 154 j = S0 17 j) ∧ (∀ (p : Nat) (j : Int), p ≠ 151 → p ≠ 152 → p ≠ 153 → p ≠ 154 → S p j = S0 p j)
noncomputable def rxmDC151x14_6 (S0 : Nat → Int → Int) (ws : List Int) (S : Nat → Int → Int) : Nat := 65
noncomputable def rxzDC151x14_6 : rx_Z := ([(0, 0), (0, 0), (0, 0), (0, 0), (0, 0), (0, 0), (0, 0), (0, 0)], [], [], 0, 0, 53, [(0, .inr (3, (0, 151))), (1, .inr (3, (0, 14)))], [])
noncomputable def rxoDC151x14_0_0 : bx_HO := (([(0, 0), (0, 0), (0, 0), (0, 0), (0, 0), (0, 0), (0, 0), (0, 0), (0, 12)], [], [(((0, 151), 1), .inr (3, (0, 152))), (((0, 14), 1), .inr (3, (0, 15))), (((0, 0), 1851192626986356797424340330377019318111018015026043177642426371000000), .inr (0, (8, 0))), (((0, 151), 0), .inr (0, (8, 0))), (((0, 0), 1851192626986356797424340330377019318111018015026043177561620480000000), .inr (0, (8, 0)))], 0, 0, 20, [(0, .inr (3, (0, 151))), (1, .inr (3, (0, 14)))], [.inr (0, (0, 12)), .inr (0, (0, 0)), .inr (3, (0, 152)), .inr (0, (0, 0)), .inr (3, (0, 15))]), [], [], [(0, 0), (0, 0), (0, 0), (0, 0), (0, 0), (0, 0), (0, 0), (0, 0)], 1)
noncomputable def rxoDC151x14_2_0 : bx_HO := (([(0, 0), (0, 0), (0, 0), (0, 0), (0, 0), (0, 0), (0, 0), (0, 0)], [], [(((0, 151), 2), .inr (3, (0, 153))), (((0, 14), 2), .inr (3, (0, 16)))], 0, 0, 35, [(0, .inr (3, (0, 151))), (1, .inr (3, (0, 14)))], [.inr (0, (0, 12)), .inr (0, (0, 0)), .inr (3, (0, 153)), .inr (0, (0, 0)), .inr (3, (0, 16))]), [], [], [(0, 0), (0, 0), (0, 0), (0, 0), (0, 0), (0, 0), (0, 0), (0, 0)], 3)
noncomputable def rxoDC151x14_4_0 : bx_HO := (([(0, 0), (0, 0), (0, 0), (0, 0), (0, 0), (0, 0), (0, 0), (0, 0)], [], [(((0, 151), 3), .inr (3, (0, 154))), (((0, 14), 3), .inr (3, (0, 17)))], 0, 0, 50, [(0, .inr (3, (0, 151))), (1, .inr (3, (0, 14)))], [.inr (0, (0, 12)), .inr (0, (0, 0)), .inr (3, (0, 154)), .inr (0, (0, 0)), .inr (3, (0, 17))]), [], [], [(0, 0), (0, 0), (0, 0), (0, 0), (0, 0), (0, 0), (0, 0), (0, 0)], 5)
noncomputable def rxeDC151x14_6_0 : rx_End × List (Nat × Int × Int) := (([(0, 0), (0, 0), (0, 0), (0, 0), (0, 0), (0, 0), (0, 0), (0, 0)], [], [], none), [])
noncomputable def rxYDC151x14 : List bx_HE := [(rxzDC151x14_0, [rxoDC151x14_0_0], []), (rxzDC151x14_1, [], []), (rxzDC151x14_2, [rxoDC151x14_2_0], []), (rxzDC151x14_3, [], []), (rxzDC151x14_4, [rxoDC151x14_4_0], []), (rxzDC151x14_5, [], []), (rxzDC151x14_6, [], [rxeDC151x14_6_0])]
noncomputable def rxUDC151x14 (q : bx_HE) : Bool := Nat.beq (rx_zpc q.1) 20 || Nat.beq (rx_zpc q.1) 35 || Nat.beq (rx_zpc q.1) 50
noncomputable def rxYBDC151x14 : bx_B := (rxV, rxNP, rxDmf, bx_mdH rxCDC151x14.2.2.1)
set_option maxRecDepth 100000 in
theorem rxYcDC151x14 : bx_chkH rxYBDC151x14 rxM109 rxCDC151x14 rxYDC151x14 (rxUDC151x14, fun cut z => rx_ex2 (rxCT rxYBDC151x14 rxCnE) cut 30000 rxCDC151x14.2.2.2.1 109 z) = true := by decide +kernel
noncomputable def rxIDC151x14 (S0 : Nat → Int → Int) (ws : List Int) (i : Nat) : bx_SP := fun S r => match i with | 0 => rxIDC151x14_0 S0 ws S | 1 => rxIDC151x14_1 S0 ws S | 2 => rxIDC151x14_2 S0 ws S | 3 => rxIDC151x14_3 S0 ws S | 4 => rxIDC151x14_4 S0 ws S | 5 => rxIDC151x14_5 S0 ws S | 6 => rxIDC151x14_6 S0 ws S | _ => False
noncomputable def rxmDC151x14 (S0 : Nat → Int → Int) (ws : List Int) (i : Nat) (S : Nat → Int → Int) (r : Nat → Int) : Nat := match i with | 0 => rxmDC151x14_0 S0 ws S | 1 => rxmDC151x14_1 S0 ws S | 2 => rxmDC151x14_2 S0 ws S | 3 => rxmDC151x14_3 S0 ws S | 4 => rxmDC151x14_4 S0 ws S | 5 => rxmDC151x14_5 S0 ws S | 6 => rxmDC151x14_6 S0 ws S | _ => 0
noncomputable def rxPDC151x14 (S0 : Nat → Int → Int) (ws : List Int) : Prop := True
noncomputable def rxPSDC151x14 (S0 : Nat → Int → Int) (ws : List Int) (S : Nat → Int → Int) (w : Option Int) : Prop := w = none ∧ S 151 0 = S0 14 0 ∧ (∀ j : Int, 0 ≤ j → j < 12 → S 152 j = S0 15 j) ∧ (∀ j : Int, 0 ≤ j → j < 12 → S 153 j = S0 16 j) ∧ (∀ j : Int, 0 ≤ j → j < 12 → S 154 j = S0 17 j) ∧ (∀ (p : Nat) (j : Int), p ≠ 151 → p ≠ 152 → p ≠ 153 → p ≠ 154 → S p j = S0 p j)
theorem rxtDC151x14_1 {S0 : Nat → Int → Int} {ws : List Int} {S : Nat → Int → Int} (hP : rxPDC151x14 S0 ws) (hin : bx_same rxL (bx_mdl rxCDC151x14.2.2.1) S0 S) (I0 : bx_Inv rxL S) (hinv : rxIDC151x14_1 S0 ws S)  : rxIDC151x14_2 S0 ws (bx_cpS S 15 152 12) ∧ rxmDC151x14_2 S0 ws (bx_cpS S 15 152 12) < rxmDC151x14_1 S0 ws S := by
  obtain ⟨h0, hf⟩ := hinv
  refine ⟨⟨?_, ?_, ?_⟩, by unfold rxmDC151x14_1 rxmDC151x14_2; omega⟩
  · rw [bx_cpS_ne (by decide)]; exact h0
  · intro j a b; rw [bx_cpS_in a b]; exact hf _ j (by decide)
  · intro p j n0 n1; rw [bx_cpS_ne n1]; exact hf p j n0
theorem rxsDC151x14_1 {X : (Nat → Int → Int) → Prop} {S0 : Nat → Int → Int} {ws : List Int} (hP : rxPDC151x14 S0 ws) (hX : ∀ S S1 : Nat → Int → Int, X S → bx_same rxL (bx_mdl rxCDC151x14.2.2.1) S S1 → X S1) : rx_obY X S0 rxCDC151x14.2.2.1 (rxIDC151x14 S0 ws) (rxmDC151x14 S0 ws) 1 2 rxzDC151x14_1 15 152 12 := by
  intro S r hinv hXS I0 hin hs_ hf_
  have b_ := bx_bds_sat hs_
  have f_ := bx_fcl_ok hs_.1 hf_
  have g := rxtDC151x14_1 hP hin I0 hinv 
  exact ⟨g.1, g.2, hX _ _ hXS (rx_same_cp (fun _ _ _ _ _ => rfl) (g1 := 11) rfl (by decide +kernel)), rx_same_cp hin (g1 := 11) rfl (by decide +kernel)⟩
theorem rxtDC151x14_3 {S0 : Nat → Int → Int} {ws : List Int} {S : Nat → Int → Int} (hP : rxPDC151x14 S0 ws) (hin : bx_same rxL (bx_mdl rxCDC151x14.2.2.1) S0 S) (I0 : bx_Inv rxL S) (hinv : rxIDC151x14_3 S0 ws S)  : rxIDC151x14_4 S0 ws (bx_cpS S 16 153 12) ∧ rxmDC151x14_4 S0 ws (bx_cpS S 16 153 12) < rxmDC151x14_3 S0 ws S := by
  obtain ⟨h0, h1, hf⟩ := hinv
  refine ⟨⟨?_, ?_, ?_, ?_⟩, by unfold rxmDC151x14_3 rxmDC151x14_4; omega⟩
  · rw [bx_cpS_ne (by decide)]; exact h0
  · intro j a b; rw [bx_cpS_ne (by decide)]; exact h1 j a b
  · intro j a b; rw [bx_cpS_in a b]; exact hf _ j (by decide) (by decide)
  · intro p j n0 n1 n2; rw [bx_cpS_ne n2]; exact hf p j n0 n1
theorem rxsDC151x14_3 {X : (Nat → Int → Int) → Prop} {S0 : Nat → Int → Int} {ws : List Int} (hP : rxPDC151x14 S0 ws) (hX : ∀ S S1 : Nat → Int → Int, X S → bx_same rxL (bx_mdl rxCDC151x14.2.2.1) S S1 → X S1) : rx_obY X S0 rxCDC151x14.2.2.1 (rxIDC151x14 S0 ws) (rxmDC151x14 S0 ws) 3 4 rxzDC151x14_3 16 153 12 := by
  intro S r hinv hXS I0 hin hs_ hf_
  have b_ := bx_bds_sat hs_
  have f_ := bx_fcl_ok hs_.1 hf_
  have g := rxtDC151x14_3 hP hin I0 hinv 
  exact ⟨g.1, g.2, hX _ _ hXS (rx_same_cp (fun _ _ _ _ _ => rfl) (g1 := 12) rfl (by decide +kernel)), rx_same_cp hin (g1 := 12) rfl (by decide +kernel)⟩
theorem rxtDC151x14_5 {S0 : Nat → Int → Int} {ws : List Int} {S : Nat → Int → Int} (hP : rxPDC151x14 S0 ws) (hin : bx_same rxL (bx_mdl rxCDC151x14.2.2.1) S0 S) (I0 : bx_Inv rxL S) (hinv : rxIDC151x14_5 S0 ws S)  : rxIDC151x14_6 S0 ws (bx_cpS S 17 154 12) ∧ rxmDC151x14_6 S0 ws (bx_cpS S 17 154 12) < rxmDC151x14_5 S0 ws S := by
  obtain ⟨h0, h1, h2, hf⟩ := hinv
  refine ⟨⟨?_, ?_, ?_, ?_, ?_⟩, by unfold rxmDC151x14_5 rxmDC151x14_6; omega⟩
  · rw [bx_cpS_ne (by decide)]; exact h0
  · intro j a b; rw [bx_cpS_ne (by decide)]; exact h1 j a b
  · intro j a b; rw [bx_cpS_ne (by decide)]; exact h2 j a b
  · intro j a b; rw [bx_cpS_in a b]; exact hf _ j (by decide) (by decide) (by decide)
  · intro p j n0 n1 n2 n3; rw [bx_cpS_ne n3]; exact hf p j n0 n1 n2
theorem rxsDC151x14_5 {X : (Nat → Int → Int) → Prop} {S0 : Nat → Int → Int} {ws : List Int} (hP : rxPDC151x14 S0 ws) (hX : ∀ S S1 : Nat → Int → Int, X S → bx_same rxL (bx_mdl rxCDC151x14.2.2.1) S S1 → X S1) : rx_obY X S0 rxCDC151x14.2.2.1 (rxIDC151x14 S0 ws) (rxmDC151x14 S0 ws) 5 6 rxzDC151x14_5 17 154 12 := by
  intro S r hinv hXS I0 hin hs_ hf_
  have b_ := bx_bds_sat hs_
  have f_ := bx_fcl_ok hs_.1 hf_
  have g := rxtDC151x14_5 hP hin I0 hinv 
  exact ⟨g.1, g.2, hX _ _ hXS (rx_same_cp (fun _ _ _ _ _ => rfl) (g1 := 13) rfl (by decide +kernel)), rx_same_cp hin (g1 := 13) rfl (by decide +kernel)⟩
theorem rxcDC151x14_0_0 {S0 : Nat → Int → Int} {ws : List Int} {S : Nat → Int → Int} {x8 : Int} (hP : rxPDC151x14 S0 ws) (hin : bx_same rxL (bx_mdl rxCDC151x14.2.2.1) S0 S) (I0 : bx_Inv rxL S) (hinv : rxIDC151x14_0 S0 ws S) (l8 : 0 ≤ x8) (u8 : x8 ≤ 12) (e1 : S 14 0 = x8) : (True) ∧ (True) ∧ rxIDC151x14_1 S0 ws (bx_up S 151 0 x8) ∧ rxmDC151x14_1 S0 ws (bx_up S 151 0 x8) < rxmDC151x14_0 S0 ws S := by
  obtain ⟨rfl, hw⟩ := hinv
  exact ⟨trivial, trivial, ⟨by rw [bx_up_at]; exact e1.symm, fun p j n0 => congrFun (bx_up_row n0) j⟩, by unfold rxmDC151x14_0 rxmDC151x14_1; omega⟩
theorem rxgDC151x14_0_0 {X : (Nat → Int → Int) → Prop} {S0 : Nat → Int → Int} {ws : List Int} (hP : rxPDC151x14 S0 ws) : bx_obC rxL X S0 rxCDC151x14.2.2.1 (rxIDC151x14 S0 ws) (rxmDC151x14 S0 ws) 0 rxzDC151x14_0 rxoDC151x14_0_0 := by
  intro S S_p r r_p hinv hX hin hsm_ hseg
  obtain ⟨I0, I1, h0_, hr_, b_, f_, d_⟩ := bx_cl (evs := [(1, (0, 151), (0, 0), .inr (0, (8, 0))), (0, (0, 14), (0, 0), .inr (0, (8, 0)))]) (fvs := []) hseg (by decide +kernel) (by decide +kernel)
  have hinv : rxIDC151x14_0 S0 ws S := hinv
  obtain ⟨⟨l8, u8⟩, -⟩ := b_
  obtain ⟨T0, ⟨e1, w_⟩, w0⟩ := d_
  subst w0
  subst w_
  have g := rxcDC151x14_0_0 hP hin I0 hinv l8 u8 e1
  refine ⟨bx_narP_ok (l := []) g.1, bx_nfP_ok h0_ (fvs := []) (by decide +kernel) g.2.1, ?_, ?_⟩
  · show rxIDC151x14_1 S0 ws (bx_up T0 151 (0) (r_p 8))
    exact g.2.2.1
  · show rxmDC151x14_1 S0 ws (bx_up T0 151 (0) (r_p 8)) < rxmDC151x14_0 S0 ws T0
    exact g.2.2.2
theorem rxcDC151x14_2_0 {S0 : Nat → Int → Int} {ws : List Int} {S : Nat → Int → Int} (hP : rxPDC151x14 S0 ws) (hin : bx_same rxL (bx_mdl rxCDC151x14.2.2.1) S0 S) (I0 : bx_Inv rxL S) (hinv : rxIDC151x14_2 S0 ws S)  : (True) ∧ (True) ∧ rxIDC151x14_3 S0 ws S ∧ rxmDC151x14_3 S0 ws S < rxmDC151x14_2 S0 ws S := by
  exact ⟨trivial, trivial, hinv, by unfold rxmDC151x14_2 rxmDC151x14_3; omega⟩
theorem rxgDC151x14_2_0 {X : (Nat → Int → Int) → Prop} {S0 : Nat → Int → Int} {ws : List Int} (hP : rxPDC151x14 S0 ws) : bx_obC rxL X S0 rxCDC151x14.2.2.1 (rxIDC151x14 S0 ws) (rxmDC151x14 S0 ws) 2 rxzDC151x14_2 rxoDC151x14_2_0 := by
  intro S S_p r r_p hinv hX hin hsm_ hseg
  obtain ⟨I0, I1, h0_, hr_, b_, f_, d_⟩ := bx_cl (evs := []) (fvs := []) hseg (by decide +kernel) (by decide +kernel)
  have hinv : rxIDC151x14_2 S0 ws S := hinv
  have w_ := d_
  subst w_
  have g := rxcDC151x14_2_0 hP hin I0 hinv 
  refine ⟨bx_narP_ok (l := []) g.1, bx_nfP_ok h0_ (fvs := []) (by decide +kernel) g.2.1, ?_, ?_⟩
  · show rxIDC151x14_3 S0 ws S_p
    exact g.2.2.1
  · show rxmDC151x14_3 S0 ws S_p < rxmDC151x14_2 S0 ws S_p
    exact g.2.2.2
theorem rxcDC151x14_4_0 {S0 : Nat → Int → Int} {ws : List Int} {S : Nat → Int → Int} (hP : rxPDC151x14 S0 ws) (hin : bx_same rxL (bx_mdl rxCDC151x14.2.2.1) S0 S) (I0 : bx_Inv rxL S) (hinv : rxIDC151x14_4 S0 ws S)  : (True) ∧ (True) ∧ rxIDC151x14_5 S0 ws S ∧ rxmDC151x14_5 S0 ws S < rxmDC151x14_4 S0 ws S := by
  exact ⟨trivial, trivial, hinv, by unfold rxmDC151x14_4 rxmDC151x14_5; omega⟩
theorem rxgDC151x14_4_0 {X : (Nat → Int → Int) → Prop} {S0 : Nat → Int → Int} {ws : List Int} (hP : rxPDC151x14 S0 ws) : bx_obC rxL X S0 rxCDC151x14.2.2.1 (rxIDC151x14 S0 ws) (rxmDC151x14 S0 ws) 4 rxzDC151x14_4 rxoDC151x14_4_0 := by
  intro S S_p r r_p hinv hX hin hsm_ hseg
  obtain ⟨I0, I1, h0_, hr_, b_, f_, d_⟩ := bx_cl (evs := []) (fvs := []) hseg (by decide +kernel) (by decide +kernel)
  have hinv : rxIDC151x14_4 S0 ws S := hinv
  have w_ := d_
  subst w_
  have g := rxcDC151x14_4_0 hP hin I0 hinv 
  refine ⟨bx_narP_ok (l := []) g.1, bx_nfP_ok h0_ (fvs := []) (by decide +kernel) g.2.1, ?_, ?_⟩
  · show rxIDC151x14_5 S0 ws S_p
    exact g.2.2.1
  · show rxmDC151x14_5 S0 ws S_p < rxmDC151x14_4 S0 ws S_p
    exact g.2.2.2
theorem rxdDC151x14_6_0 {S0 : Nat → Int → Int} {ws : List Int} {S : Nat → Int → Int} (hP : rxPDC151x14 S0 ws) (hin : bx_same rxL (bx_mdl rxCDC151x14.2.2.1) S0 S) (hin2 : bx_same rxL (bx_mdl rxCDC151x14.2.2.1) S S) (I0 : bx_Inv rxL S) (I1 : bx_Inv rxL S) (hinv : rxIDC151x14_6 S0 ws S)  : (True) ∧ rxPSDC151x14 S0 ws S none := by
  exact ⟨trivial, rfl, hinv⟩
theorem rxfDC151x14_6_0 {X : (Nat → Int → Int) → Prop} {S0 : Nat → Int → Int} {ws : List Int} (hP : rxPDC151x14 S0 ws) : bx_obE rxL X S0 rxCDC151x14.2.2.1 (rxIDC151x14 S0 ws) (rxPSDC151x14 S0 ws) 6 rxzDC151x14_6 rxeDC151x14_6_0 := by
  intro S S_p r r_p hinv hX hin hsm_ hseg
  obtain ⟨I0, I1, h0_, hr_, b_, f_, d_⟩ := bx_cl (evs := []) (fvs := []) hseg (by decide +kernel) (by decide +kernel)
  have hinv : rxIDC151x14_6 S0 ws S := hinv
  have w_ := d_
  subst w_
  have g := rxdDC151x14_6_0 hP hin hsm_ I0 I1 hinv 
  refine ⟨bx_narP_ok (l := []) g.1, ?_⟩
  exact g.2
theorem rxgCDC151x14 {X : (Nat → Int → Int) → Prop} {S0 : Nat → Int → Int} {ws : List Int} (hP : rxPDC151x14 S0 ws) : bx_allI (fun i q => rxUDC151x14 q = true ∨ bx_allP (fun o => bx_obC rxL X S0 rxCDC151x14.2.2.1 (rxIDC151x14 S0 ws) (rxmDC151x14 S0 ws) i q.1 o) q.2.1) 0 rxYDC151x14 := ⟨Or.inr ⟨rxgDC151x14_0_0 hP, trivial⟩, Or.inl rfl, Or.inr ⟨rxgDC151x14_2_0 hP, trivial⟩, Or.inl rfl, Or.inr ⟨rxgDC151x14_4_0 hP, trivial⟩, Or.inl rfl, Or.inr trivial, trivial⟩
theorem rxgEDC151x14 {X : (Nat → Int → Int) → Prop} {S0 : Nat → Int → Int} {ws : List Int} (hP : rxPDC151x14 S0 ws) : bx_allI (fun i q => rxUDC151x14 q = true ∨ bx_allP (fun E => bx_obE rxL X S0 rxCDC151x14.2.2.1 (rxIDC151x14 S0 ws) (rxPSDC151x14 S0 ws) i q.1 E) q.2.2) 0 rxYDC151x14 := ⟨Or.inr trivial, Or.inl rfl, Or.inr trivial, Or.inl rfl, Or.inr trivial, Or.inl rfl, Or.inr ⟨rxfDC151x14_6_0 hP, trivial⟩, trivial⟩
theorem rxuDC151x14 {PX : State → Prop} {Dg : va_G} {A : Nat → Prop} {ad xa : Nat → Nat} {l : Launch} {X : (Nat → Int → Int) → Prop} (hPX : rx_PXOK rxNW A PX) (hX : ∀ S S1 : Nat → Int → Int, X S → bx_same rxL (bx_mdl rxCDC151x14.2.2.1) S S1 → X S1) {S0 : Nat → Int → Int} {ws : List Int} (hP : rxPDC151x14 S0 ws) : ∀ (i : Nat) (q : bx_HE), rxYDC151x14[i]? = some q → rxUDC151x14 q = true → ∀ {p : Program} {e : Env} {R : Room} {s : State} {m : MethodId} {args : Array Value} {below : List Frame} {meth : Method} {c : Code} {Q : State → Prop} {H0 : Heap}, rx_Fr rxG rxNW rxAO PX p s m args meth c rxM109 → (∀ q, H0.size ≤ q → A q) → H0 = s.heap → rxM109.2.2.2.2.2.2.1 ≤ R.cells → rxM109.2.2.2.2.2.2.2 ≤ R.slots → rxCDC151x14.2.2.2.1 ≤ R.frames → rxCDC151x14.2.2.2.1 * 40 ≤ R.locals → bx_Step p l e R s m args below meth c Q Dg rxL X vwCl A xa H0 ad rxM109 rxYDC151x14 (rxIDC151x14 S0 ws) (rxmDC151x14 S0 ws) S0 rxCDC151x14.2.2.1 i q := by
  intro i q hq hus p e R s m args below meth c Q H0 hF hA hH0 hmc hms hd hdl
  match i, hq with
  | 0, hq =>
    cases hq
    exact absurd (show false = true from hus) Bool.false_ne_true
  | 1, hq =>
    cases hq
    exact rx_stepY (i_p := 2) (idx := 28) (P0 := 15) (P1 := 152) (n := 12) (g0 := 11) (g1 := 11) (t := []) hF rfl (Nat.le_trans (by decide) hd) (Nat.le_trans (by decide) hdl) (by decide +kernel) (by decide +kernel) rfl rfl (by decide) (by decide) rfl rfl (by decide) (by decide) rfl rfl (by decide) (by decide) rfl rfl (rxsDC151x14_1 hP hX)
  | 2, hq =>
    cases hq
    exact absurd (show false = true from hus) Bool.false_ne_true
  | 3, hq =>
    cases hq
    exact rx_stepY (i_p := 4) (idx := 28) (P0 := 16) (P1 := 153) (n := 12) (g0 := 12) (g1 := 12) (t := []) hF rfl (Nat.le_trans (by decide) hd) (Nat.le_trans (by decide) hdl) (by decide +kernel) (by decide +kernel) rfl rfl (by decide) (by decide) rfl rfl (by decide) (by decide) rfl rfl (by decide) (by decide) rfl rfl (rxsDC151x14_3 hP hX)
  | 4, hq =>
    cases hq
    exact absurd (show false = true from hus) Bool.false_ne_true
  | 5, hq =>
    cases hq
    exact rx_stepY (i_p := 6) (idx := 28) (P0 := 17) (P1 := 154) (n := 12) (g0 := 13) (g1 := 13) (t := []) hF rfl (Nat.le_trans (by decide) hd) (Nat.le_trans (by decide) hdl) (by decide +kernel) (by decide +kernel) rfl rfl (by decide) (by decide) rfl rfl (by decide) (by decide) rfl rfl (by decide) (by decide) rfl rfl (rxsDC151x14_5 hP hX)
  | 6, hq =>
    cases hq
    exact absurd (show false = true from hus) Bool.false_ne_true
  | n + 7, hq => cases hq
theorem rxQDC151x14 {PX : State → Prop} {Dg : va_G} {A : Nat → Prop} {ad xa : Nat → Nat} {l : Launch} {X : (Nat → Int → Int) → Prop} (hPX : rx_PXOK rxNW A PX) (hsl : ∀ s : State, PX s → ∀ o idx n : Nat, rxSl o idx = some n → ∃ tx : String, vk_R (rxNm o) idx tx (ad n) s)
    (hX : ∀ S S_p : Nat → Int → Int, X S → bx_same rxL (bx_mdl rxCDC151x14.2.2.1) S S_p → X S_p)
    (ih : ∀ (j2 : Nat) (ct2 : bx_Ct) (M2 : rx_Mt), ct2 ∈ rxCnE j2 → ct2.2.2.2.1 + 1 ≤ rxCDC151x14.2.2.2.1 → rxT.2.2.2.2.2 j2 = some M2 → bx_Con rxG rxNW rxAO PX Dg rxL X vwCl A ad l M2 ct2) : bx_ConP rxG rxNW rxAO PX Dg rxL X vwCl A ad l rxM109 rxCDC151x14 rxPDC151x14 rxPSDC151x14 :=
  rxQof (xa := xa) (Cn := rxCnE) (f := 30000) (j := 109) (tab := rxYDC151x14) (us := rxUDC151x14) hPX hsl hX ih rfl rxYcDC151x14 rxIDC151x14 rxmDC151x14
    (fun S0 ws r I0 I ht0 ht as he he1 hX0 hI0 hP hs ha => by
      have e := he.symm.trans (show bx_ent0 rxNP rxCDC151x14.1 bx_I0 [] = some ([(0, 0), (0, 0), (0, 0), (0, 0), (0, 0), (0, 0), (0, 0), (0, 0)], [], [.inr (3, (0, 151)), .inr (3, (0, 14))]) from rfl)
      cases e
      subst ha
      have h0 : r 0 = 0 := hs.1
      show rxIDC151x14_0 S0 _ S0
      refine ⟨rfl, ?_⟩
      simp only [List.map_cons, List.map_nil, bx_xv_ok h0]
      rfl)
    (fun S0 ws hP => rxuDC151x14 (xa := xa) hPX hX hP) (fun S0 ws hP => rxgCDC151x14 hP) (fun S0 ws hP => rxgEDC151x14 hP)
end
