/-! ALL CONTRACTS BY HAND, put together, by program (wip/sim/genasm.py) -/
theorem rx_conA {PX : State → Prop} {Dg : va_G} {A : Nat → Prop} {ad : Nat → Nat} {l : Launch} {X : (Nat → Int → Int) → Prop} {M : rx_Mt} {ct : bx_Ct} {P : (Nat → Int → Int) → List Int → Prop} {PS : (Nat → Int → Int) → List Int → (Nat → Int → Int) → Option Int → Prop} (h : bx_ConP rxG rxNW rxAO PX Dg rxL X vwCl A ad l M ct P PS) (hP : ∀ S0 ws, X S0 → bx_argIs rxL ct.1 ws → P S0 ws) : bx_Con rxG rxNW rxAO PX Dg rxL X vwCl A ad l M ct := by
  intro S0 vs hX0 hvs hpr
  obtain ⟨ws, h1, h2⟩ := bx_argOK_is hvs
  rw [h2]
  refine h S0 ws hX0 h1 hpr (hP _ _ hX0 h1) _ fun x st oc t hq => ?_
  obtain ⟨⟨S_p, rv, g1, g2, g3, g4, g5, -⟩, g6⟩ := hq
  exact ⟨⟨S_p, rv, g1, g2, g3, g4, g5⟩, g6⟩
/-- where what is kept is broken on the way: asked of the start, given at the end -/
theorem rx_conX {PX : State → Prop} {Dg : va_G} {A : Nat → Prop} {ad : Nat → Nat} {l : Launch} {M : rx_Mt} {ct : bx_Ct} {P : (Nat → Int → Int) → List Int → Prop} {PS : (Nat → Int → Int) → List Int → (Nat → Int → Int) → Option Int → Prop} (h : bx_ConP rxG rxNW rxAO PX Dg rxL (fun _ => True) vwCl A ad l M ct P PS) (hP : ∀ S0 ws, rxX S0 → P S0 ws) (hPS : ∀ S0 ws S w, rxX S0 → bx_same rxL (bx_mdl ct.2.2.1) S0 S → PS S0 ws S w → rxX S) : bx_ConP rxG rxNW rxAO PX Dg rxL rxX vwCl A ad l M ct (fun _ _ => True) PS := by
  intro S0 ws hX0 hvs hpr _ Qc hQc
  refine h S0 ws trivial hvs hpr (hP _ _ hX0) Qc fun x st oc t hq => hQc x st oc t ?_
  obtain ⟨⟨S_p, rv, g1, g2, g3, g4, -, w, g5, g6⟩, g7⟩ := hq
  exact ⟨⟨S_p, rv, g1, g2, g3, g4, hPS _ _ _ _ hX0 g4 g5, w, g5, g6⟩, g7⟩
set_option maxHeartbeats 1000000 in
theorem rxH59 {PX : State → Prop} {Dg : va_G} {A : Nat → Prop} {ad av : Nat → Nat} {l : Launch} (hPX : rx_PXOK rxNW A PX) (hsl : ∀ s : State, PX s → ∀ o idx n : Nat, rxSl o idx = some n → ∃ tx : String, vk_R (rxNm o) idx tx (ad n) s) (hstr : rx_hstr PX A ad av)
     : bx_Con rxG rxNW rxAO PX Dg rxL rxX vwCl A ad l rxM59 rxC59 := by
  have q59 := rxQ59 (PX := PX) (Dg := Dg) (A := A) (ad := ad) (xa := fun n => n) (l := l) (X := rxX) (av := av) hPX hsl (fun _ _ h hm => rxX_of (by decide +kernel) h hm) (fun _ _ _ h => absurd h List.not_mem_nil) hstr
  exact rx_conA q59 fun S0 ws _ hw => by
    obtain ⟨w, wt, rfl, h1, w2, wt2, rfl, h2, rfl⟩ := hw
    have e : w = 412 := h1
    subst e
    exact ⟨w2, rfl, rxTxB h2⟩
set_option maxHeartbeats 1000000 in
theorem rxH177 {PX : State → Prop} {Dg : va_G} {A : Nat → Prop} {ad : Nat → Nat} {l : Launch} (hPX : rx_PXOK rxNW A PX) (hsl : ∀ s : State, PX s → ∀ o idx n : Nat, rxSl o idx = some n → ∃ tx : String, vk_R (rxNm o) idx tx (ad n) s)
     : bx_Con rxG rxNW rxAO PX Dg rxL rxX vwCl A ad l rxM177 rxC177 := by
  have q306 := rxQ306 (PX := PX) (Dg := Dg) (A := A) (ad := ad) (xa := fun n => n) (l := l) (X := rxX) hPX hsl (fun _ _ h hm => rxX_of (by decide +kernel) h hm) (fun _ _ _ h => absurd h List.not_mem_nil)
  have q177 := rxQ177 (PX := PX) (Dg := Dg) (A := A) (ad := ad) (xa := fun n => n) (l := l) (X := rxX) hPX hsl (fun _ _ h hm => rxX_of (by decide +kernel) h hm) (fun _ _ _ h => absurd h List.not_mem_nil) q306
  exact q177.con fun _ _ => trivial
set_option maxHeartbeats 1000000 in
theorem rxH181 {PX : State → Prop} {Dg : va_G} {A : Nat → Prop} {ad : Nat → Nat} {l : Launch} (hPX : rx_PXOK rxNW A PX) (hsl : ∀ s : State, PX s → ∀ o idx n : Nat, rxSl o idx = some n → ∃ tx : String, vk_R (rxNm o) idx tx (ad n) s)
    (ih : ∀ (j : Nat) (ct : bx_Ct) (M : rx_Mt), ct ∈ rxCn j → ct.2.2.2.1 + 1 ≤ rxC181.2.2.2.1 → rxT.2.2.2.2.2 j = some M → bx_Con rxG rxNW rxAO PX Dg rxL rxX vwCl A ad l M ct) : bx_Con rxG rxNW rxAO PX Dg rxL rxX vwCl A ad l rxM181 rxC181 := by
  have q301 := rxQ301 (PX := PX) (Dg := Dg) (A := A) (ad := ad) (xa := fun n => n) (l := l) (X := rxX) hPX hsl (fun _ _ h hm => rxX_of (by decide +kernel) h hm) (fun _ _ _ h => absurd h List.not_mem_nil)
  have q181 := rxQ181 (PX := PX) (Dg := Dg) (A := A) (ad := ad) (xa := fun n => n) (l := l) (X := rxX) hPX hsl (fun _ _ h hm => rxX_of (by decide +kernel) h hm) (fun j2 ct2 M2 hc hd hM => ih j2 ct2 M2 hc (Nat.le_trans hd (by decide)) hM) q301
  exact q181.con fun _ _ => trivial
set_option maxHeartbeats 1000000 in
theorem rxH187 {PX : State → Prop} {Dg : va_G} {A : Nat → Prop} {ad : Nat → Nat} {l : Launch} (hPX : rx_PXOK rxNW A PX) (hsl : ∀ s : State, PX s → ∀ o idx n : Nat, rxSl o idx = some n → ∃ tx : String, vk_R (rxNm o) idx tx (ad n) s)
     : bx_Con rxG rxNW rxAO PX Dg rxL rxX vwCl A ad l rxM187 rxC187 := by
  have qFO := rxQFO (PX := PX) (Dg := Dg) (A := A) (ad := ad) (xa := fun n => n) (l := l) (X := rxX) hPX hsl (fun _ _ h hm => rxX_of (by decide +kernel) h hm) (fun _ _ _ h => absurd h List.not_mem_nil)
  have qMO := rxQMO (PX := PX) (Dg := Dg) (A := A) (ad := ad) (xa := fun n => n) (l := l) (X := rxX) hPX hsl (fun _ _ h hm => rxX_of (by decide +kernel) h hm) (fun _ _ _ h => absurd h List.not_mem_nil)
  have qMB := rxQMB (PX := PX) (Dg := Dg) (A := A) (ad := ad) (xa := fun n => n) (l := l) (X := rxX) hPX hsl (fun _ _ h hm => rxX_of (by decide +kernel) h hm) (fun _ _ _ h => absurd h List.not_mem_nil) qMO
  have q187 := rxQ187 (PX := PX) (Dg := Dg) (A := A) (ad := ad) (xa := fun n => n) (l := l) (X := rxX) hPX hsl (fun _ _ h hm => rxX_of (by decide +kernel) h hm) (fun _ _ _ h => absurd h List.not_mem_nil) qFO qMO qMB
  exact q187.con fun _ _ => trivial
set_option maxHeartbeats 1000000 in
theorem rxH189 {PX : State → Prop} {Dg : va_G} {A : Nat → Prop} {ad : Nat → Nat} {l : Launch} (hPX : rx_PXOK rxNW A PX) (hsl : ∀ s : State, PX s → ∀ o idx n : Nat, rxSl o idx = some n → ∃ tx : String, vk_R (rxNm o) idx tx (ad n) s)
    (ih : ∀ (j : Nat) (ct : bx_Ct) (M : rx_Mt), ct ∈ rxCn j → ct.2.2.2.1 + 1 ≤ rxC189.2.2.2.1 → rxT.2.2.2.2.2 j = some M → bx_Con rxG rxNW rxAO PX Dg rxL rxX vwCl A ad l M ct) : bx_Con rxG rxNW rxAO PX Dg rxL rxX vwCl A ad l rxM189 rxC189 := by
  have qFP := rxQFP (PX := PX) (Dg := Dg) (A := A) (ad := ad) (xa := fun n => n) (l := l) (X := rxX) hPX hsl (fun _ _ h hm => rxX_of (by decide +kernel) h hm) (fun j2 ct2 M2 hc hd hM => ih j2 ct2 M2 hc (Nat.le_trans hd (by decide)) hM)
  have qFC := rxQFC (PX := PX) (Dg := Dg) (A := A) (ad := ad) (xa := fun n => n) (l := l) (X := rxX) hPX hsl (fun _ _ h hm => rxX_of (by decide +kernel) h hm) (fun _ _ _ h => absurd h List.not_mem_nil)
  have qLO := rxQLO (PX := PX) (Dg := Dg) (A := A) (ad := ad) (xa := fun n => n) (l := l) (X := rxX) hPX hsl (fun _ _ h hm => rxX_of (by decide +kernel) h hm) (fun _ _ _ h => absurd h List.not_mem_nil)
  have qLT := rxQLT (PX := PX) (Dg := Dg) (A := A) (ad := ad) (xa := fun n => n) (l := l) (X := rxX) hPX hsl (fun _ _ h hm => rxX_of (by decide +kernel) h hm) (fun _ _ _ h => absurd h List.not_mem_nil)
  have q189 := rxQ189 (PX := PX) (Dg := Dg) (A := A) (ad := ad) (xa := fun n => n) (l := l) (X := rxX) hPX hsl (fun _ _ h hm => rxX_of (by decide +kernel) h hm) (fun _ _ _ h => absurd h List.not_mem_nil) qFP qFC qLO qLT
  exact q189.con fun _ _ => trivial
theorem rxX209 {S0 S : Nat → Int → Int} {ws : List Int} {w : Option Int} (h : rxX S0) (hm : bx_same rxL (bx_mdl rxC209.2.2.1) S0 S) (hp : rxPS209 S0 ws S w) : rxX S := by
  obtain ⟨h1, h2, h3, h4⟩ := h
  have h15 : S 480 15 = 0 := (rx_sameO hm (p := 480) (j := 15) rfl (by omega) (by decide +kernel) (by decide)).trans h4
  have hrow : ∀ i : Int, 0 ≤ i → i < 6180 → S 482 i = S0 482 i := fun i i0 i1 => rx_sameR hm (p := 482) (tc := 0) (n := 6180) (g := 63) rfl (by omega) (by decide +kernel) (by decide +kernel) i0 (by omega)
  have hr := rxTq_cg h1 (R' := S 482) fun i i0 i1 => hrow i (by omega) i1
  obtain ⟨k, -, hk, -⟩ := hp
  rcases hk with ⟨k0, k1, -, c1, c2⟩ | ⟨-, -, c⟩
  · rcases (show k = 0 ∨ k = 1 by omega) with rfl | rfl
    · exact ⟨hr, rxTq_cg h1 fun i i0 i1 => by have := c1 i (by omega) i1; rw [show 6180 * (0 : Int) + i = i by omega] at this; exact this, rxTq_cg h3 fun i i0 i1 => c2 _ (by omega), h15⟩
    · exact ⟨hr, rxTq_cg h2 fun i i0 i1 => c2 _ (by omega), rxTq_cg h1 fun i i0 i1 => by have := c1 i (by omega) i1; rw [show 6180 * (1 : Int) + i = 6180 + i by omega] at this; exact this, h15⟩
  · exact ⟨hr, rxTq_cg h2 fun i _ _ => c i, rxTq_cg h3 fun i _ _ => c _, h15⟩
set_option maxHeartbeats 1000000 in
theorem rxH209 {PX : State → Prop} {Dg : va_G} {A : Nat → Prop} {ad : Nat → Nat} {l : Launch} (hPX : rx_PXOK rxNW A PX) (hsl : ∀ s : State, PX s → ∀ o idx n : Nat, rxSl o idx = some n → ∃ tx : String, vk_R (rxNm o) idx tx (ad n) s)
     : bx_ConP rxG rxNW rxAO PX Dg rxL rxX vwCl A ad l rxM209 rxC209 (fun _ _ => True) rxPS209 := by
  have q209 := rxQ209 (PX := PX) (Dg := Dg) (A := A) (ad := ad) (xa := fun n => n) (l := l) (X := (fun _ => True)) hPX hsl (fun _ _ h _ => h) (fun _ _ _ h => absurd h List.not_mem_nil)
  exact rx_conX q209 (fun _ _ _ => trivial) (fun S0 ws S w h hm hp => rxX209 h hm hp)
theorem rxX211 {S0 S : Nat → Int → Int} {ws : List Int} {w : Option Int} (h : rxX S0) (hm : bx_same rxL (bx_mdl rxC211.2.2.1) S0 S) (hp : rxPS211 S0 ws S w) : rxX S := by
  obtain ⟨h1, h2, h3, h4⟩ := h
  have h15 : S 480 15 = 0 := (rx_sameO hm (p := 480) (j := 15) rfl (by omega) (by decide +kernel) (by decide)).trans h4
  have himg : ∀ i : Int, 0 ≤ i → i < 12360 → S 483 i = S0 483 i := fun i i0 i1 => rx_sameR hm (p := 483) (tc := 0) (n := 12360) (g := 64) rfl (by omega) (by decide +kernel) (by decide +kernel) i0 (by omega)
  have a2 := rxTq_cg h2 (R' := S 483) fun i i0 i1 => himg i (by omega) (by omega)
  have a3 := rxTq_cg h3 (R' := fun i => S 483 (6180 + i)) fun i i0 i1 => himg _ (by omega) (by omega)
  obtain ⟨k, -, hk⟩ := hp
  rcases hk with ⟨k0, k1, -, -, c1⟩ | ⟨-, -, c⟩
  · rcases (show k = 0 ∨ k = 1 by omega) with rfl | rfl
    · exact ⟨rxTq_cg h2 fun i i0 i1 => by have := c1 i (by omega) i1; rw [show 6180 * (0 : Int) + i = i by omega] at this; exact this, a2, a3, h15⟩
    · exact ⟨rxTq_cg h3 fun i i0 i1 => by have := c1 i (by omega) i1; rw [show 6180 * (1 : Int) + i = 6180 + i by omega] at this; exact this, a2, a3, h15⟩
  · exact ⟨rxTq_cg h1 fun i _ _ => c i, a2, a3, h15⟩
set_option maxHeartbeats 1000000 in
theorem rxH211 {PX : State → Prop} {Dg : va_G} {A : Nat → Prop} {ad : Nat → Nat} {l : Launch} (hPX : rx_PXOK rxNW A PX) (hsl : ∀ s : State, PX s → ∀ o idx n : Nat, rxSl o idx = some n → ∃ tx : String, vk_R (rxNm o) idx tx (ad n) s)
     : bx_Con rxG rxNW rxAO PX Dg rxL rxX vwCl A ad l rxM211 rxC211 := by
  have q211 := rxQ211 (PX := PX) (Dg := Dg) (A := A) (ad := ad) (xa := fun n => n) (l := l) (X := (fun _ => True)) hPX hsl (fun _ _ h _ => h) (fun _ _ _ h => absurd h List.not_mem_nil)
  exact (rx_conX q211 (fun _ _ _ => trivial) (fun S0 ws S w h hm hp => rxX211 h hm hp)).con fun _ _ => trivial
set_option maxHeartbeats 1000000 in
theorem rxH236 {PX : State → Prop} {Dg : va_G} {A : Nat → Prop} {ad : Nat → Nat} {l : Launch} (hPX : rx_PXOK rxNW A PX) (hsl : ∀ s : State, PX s → ∀ o idx n : Nat, rxSl o idx = some n → ∃ tx : String, vk_R (rxNm o) idx tx (ad n) s)
     : bx_Con rxG rxNW rxAO PX Dg rxL rxX vwCl A ad l rxM236 rxC236 := by
  have q236 := rxQ236 (PX := PX) (Dg := Dg) (A := A) (ad := ad) (xa := fun n => n) (l := l) (X := rxX) hPX hsl (fun _ _ h hm => rxX_of (by decide +kernel) h hm) (fun _ _ _ h => absurd h List.not_mem_nil)
  exact q236.con fun _ _ => trivial
set_option maxHeartbeats 1000000 in
theorem rxH240 {PX : State → Prop} {Dg : va_G} {A : Nat → Prop} {ad : Nat → Nat} {l : Launch} (hPX : rx_PXOK rxNW A PX) (hsl : ∀ s : State, PX s → ∀ o idx n : Nat, rxSl o idx = some n → ∃ tx : String, vk_R (rxNm o) idx tx (ad n) s)
     : bx_Con rxG rxNW rxAO PX Dg rxL rxX vwCl A ad l rxM240 rxC240 := by
  have qNX := rxQNX (PX := PX) (Dg := Dg) (A := A) (ad := ad) (xa := fun n => n) (l := l) (X := (fun _ => True)) hPX hsl (fun _ _ h _ => h) (fun _ _ _ h => absurd h List.not_mem_nil)
  have qBG := rxQBG (PX := PX) (Dg := Dg) (A := A) (ad := ad) (xa := fun n => n) (l := l) (X := (fun _ => True)) hPX hsl (fun _ _ h _ => h) (fun _ _ _ h => absurd h List.not_mem_nil) qNX
  have qBX := rxQBX (PX := PX) (Dg := Dg) (A := A) (ad := ad) (xa := fun n => n) (l := l) (X := (fun _ => True)) hPX hsl (fun _ _ h _ => h) (fun _ _ _ h => absurd h List.not_mem_nil) qBG
  have qMU := rxQMU (PX := PX) (Dg := Dg) (A := A) (ad := ad) (xa := fun n => n) (l := l) (X := (fun _ => True)) hPX hsl (fun _ _ h _ => h) (fun _ _ _ h => absurd h List.not_mem_nil) qNX
  have qNU := rxQNU (PX := PX) (Dg := Dg) (A := A) (ad := ad) (xa := fun n => n) (l := l) (X := (fun _ => True)) hPX hsl (fun _ _ h _ => h) (fun _ _ _ h => absurd h List.not_mem_nil) qMU
  have qRPL := rxQRPL (PX := PX) (Dg := Dg) (A := A) (ad := ad) (xa := fun n => n) (l := l) (X := (fun _ => True)) hPX hsl (fun _ _ h _ => h) (fun _ _ _ h => absurd h List.not_mem_nil) qNX qNU
  have qIW := rxQIW (PX := PX) (Dg := Dg) (A := A) (ad := ad) (xa := fun n => n) (l := l) (X := (fun _ => True)) hPX hsl (fun _ _ h _ => h) (fun _ _ _ h => absurd h List.not_mem_nil)
  have qPU := rxQPU (PX := PX) (Dg := Dg) (A := A) (ad := ad) (xa := fun n => n) (l := l) (X := (fun _ => True)) hPX hsl (fun _ _ h _ => h) (fun _ _ _ h => absurd h List.not_mem_nil)
  have qOB := rxQOB (PX := PX) (Dg := Dg) (A := A) (ad := ad) (xa := fun n => n) (l := l) (X := (fun _ => True)) hPX hsl (fun _ _ h _ => h) (fun _ _ _ h => absurd h List.not_mem_nil) qMU qPU
  have qPP := rxQPP (PX := PX) (Dg := Dg) (A := A) (ad := ad) (xa := fun n => n) (l := l) (X := (fun _ => True)) hPX hsl (fun _ _ h _ => h) (fun _ _ _ h => absurd h List.not_mem_nil)
  have qPA := rxQPA (PX := PX) (Dg := Dg) (A := A) (ad := ad) (xa := fun n => n) (l := l) (X := (fun _ => True)) hPX hsl (fun _ _ h _ => h) (fun _ _ _ h => absurd h List.not_mem_nil)
  have qEM := rxQEM (PX := PX) (Dg := Dg) (A := A) (ad := ad) (xa := fun n => n) (l := l) (X := (fun _ => True)) hPX hsl (fun _ _ h _ => h) (fun _ _ _ h => absurd h List.not_mem_nil)
  have qLF := rxQLF (PX := PX) (Dg := Dg) (A := A) (ad := ad) (xa := fun n => n) (l := l) (X := (fun _ => True)) hPX hsl (fun _ _ h _ => h) (fun _ _ _ h => absurd h List.not_mem_nil) qMU qEM
  have qRP := rxQRP (PX := PX) (Dg := Dg) (A := A) (ad := ad) (xa := fun n => n) (l := l) (X := (fun _ => True)) hPX hsl (fun _ _ h _ => h) (fun _ _ _ h => absurd h List.not_mem_nil) qOB qPP qPA qLF
  have qRN := rxQRN (PX := PX) (Dg := Dg) (A := A) (ad := ad) (xa := fun n => n) (l := l) (X := (fun _ => True)) hPX hsl (fun _ _ h _ => h) (fun _ _ _ h => absurd h List.not_mem_nil) qPU qNX qOB qRP
  have qBI := rxQBI (PX := PX) (Dg := Dg) (A := A) (ad := ad) (xa := fun n => n) (l := l) (X := (fun _ => True)) hPX hsl (fun _ _ h _ => h) (fun _ _ _ h => absurd h List.not_mem_nil)
  have qST := rxQST (PX := PX) (Dg := Dg) (A := A) (ad := ad) (xa := fun n => n) (l := l) (X := (fun _ => True)) hPX hsl (fun _ _ h _ => h) (fun _ _ _ h => absurd h List.not_mem_nil) qEM
  have qIN := rxQIN (PX := PX) (Dg := Dg) (A := A) (ad := ad) (xa := fun n => n) (l := l) (X := (fun _ => True)) hPX hsl (fun _ _ h _ => h) (fun _ _ _ h => absurd h List.not_mem_nil)
  have qIS := rxQIS (PX := PX) (Dg := Dg) (A := A) (ad := ad) (xa := fun n => n) (l := l) (X := (fun _ => True)) hPX hsl (fun _ _ h _ => h) (fun _ _ _ h => absurd h List.not_mem_nil)
  have qIC := rxQIC (PX := PX) (Dg := Dg) (A := A) (ad := ad) (xa := fun n => n) (l := l) (X := (fun _ => True)) hPX hsl (fun _ _ h _ => h) (fun _ _ _ h => absurd h List.not_mem_nil)
  have qBS := rxQBS (PX := PX) (Dg := Dg) (A := A) (ad := ad) (xa := fun n => n) (l := l) (X := (fun _ => True)) hPX hsl (fun _ _ h _ => h) (fun _ _ _ h => absurd h List.not_mem_nil) qBI qST qPU qNX qIN qIS qMU qIC
  have qBT := rxQBT (PX := PX) (Dg := Dg) (A := A) (ad := ad) (xa := fun n => n) (l := l) (X := (fun _ => True)) hPX hsl (fun _ _ h _ => h) (fun _ _ _ h => absurd h List.not_mem_nil) qST qPU qEM qNX qIN qIS qMU
  have qRE := rxQRE (PX := PX) (Dg := Dg) (A := A) (ad := ad) (xa := fun n => n) (l := l) (X := (fun _ => True)) hPX hsl (fun _ _ h _ => h) (fun _ _ _ h => absurd h List.not_mem_nil) qRN qRP qBS qBT qST
  have qRY := rxQRY (PX := PX) (Dg := Dg) (A := A) (ad := ad) (xa := fun n => n) (l := l) (X := (fun _ => True)) hPX hsl (fun _ _ h _ => h) (fun _ _ _ h => absurd h List.not_mem_nil) qMU qRPL qIW qRE qNX
  have qET := rxQET (PX := PX) (Dg := Dg) (A := A) (ad := ad) (xa := fun n => n) (l := l) (X := (fun _ => True)) hPX hsl (fun _ _ h _ => h) (fun _ _ _ h => absurd h List.not_mem_nil) qMU
  have qRA := rxQRA (PX := PX) (Dg := Dg) (A := A) (ad := ad) (xa := fun n => n) (l := l) (X := (fun _ => True)) hPX hsl (fun _ _ h _ => h) (fun _ _ _ h => absurd h List.not_mem_nil)
  have qIP := rxQIP (PX := PX) (Dg := Dg) (A := A) (ad := ad) (xa := fun n => n) (l := l) (X := (fun _ => True)) hPX hsl (fun _ _ h _ => h) (fun _ _ _ h => absurd h List.not_mem_nil) qRA
  have q240 := rxQ240 (PX := PX) (Dg := Dg) (A := A) (ad := ad) (xa := fun n => n) (l := l) (X := (fun _ => True)) hPX hsl (fun _ _ h _ => h) (fun _ _ _ h => absurd h List.not_mem_nil) qBX qRY qNX qET qIP
  exact (rx_conX q240 (fun S0 ws h => h) (fun S0 ws S w _ _ h => h)).con fun _ _ => trivial
set_option maxHeartbeats 1000000 in
theorem rxH242 {PX : State → Prop} {Dg : va_G} {A : Nat → Prop} {ad : Nat → Nat} {l : Launch} (hPX : rx_PXOK rxNW A PX) (hsl : ∀ s : State, PX s → ∀ o idx n : Nat, rxSl o idx = some n → ∃ tx : String, vk_R (rxNm o) idx tx (ad n) s)
     : bx_Con rxG rxNW rxAO PX Dg rxL rxX vwCl A ad l rxM242 rxC242 := by
  have qNX := rxQNX (PX := PX) (Dg := Dg) (A := A) (ad := ad) (xa := fun n => n) (l := l) (X := (fun _ => True)) hPX hsl (fun _ _ h _ => h) (fun _ _ _ h => absurd h List.not_mem_nil)
  have qBG := rxQBG (PX := PX) (Dg := Dg) (A := A) (ad := ad) (xa := fun n => n) (l := l) (X := (fun _ => True)) hPX hsl (fun _ _ h _ => h) (fun _ _ _ h => absurd h List.not_mem_nil) qNX
  have qBX := rxQBX (PX := PX) (Dg := Dg) (A := A) (ad := ad) (xa := fun n => n) (l := l) (X := (fun _ => True)) hPX hsl (fun _ _ h _ => h) (fun _ _ _ h => absurd h List.not_mem_nil) qBG
  have qMU := rxQMU (PX := PX) (Dg := Dg) (A := A) (ad := ad) (xa := fun n => n) (l := l) (X := (fun _ => True)) hPX hsl (fun _ _ h _ => h) (fun _ _ _ h => absurd h List.not_mem_nil) qNX
  have qPU := rxQPU (PX := PX) (Dg := Dg) (A := A) (ad := ad) (xa := fun n => n) (l := l) (X := (fun _ => True)) hPX hsl (fun _ _ h _ => h) (fun _ _ _ h => absurd h List.not_mem_nil)
  have qOB := rxQOB (PX := PX) (Dg := Dg) (A := A) (ad := ad) (xa := fun n => n) (l := l) (X := (fun _ => True)) hPX hsl (fun _ _ h _ => h) (fun _ _ _ h => absurd h List.not_mem_nil) qMU qPU
  have qPP := rxQPP (PX := PX) (Dg := Dg) (A := A) (ad := ad) (xa := fun n => n) (l := l) (X := (fun _ => True)) hPX hsl (fun _ _ h _ => h) (fun _ _ _ h => absurd h List.not_mem_nil)
  have qPA := rxQPA (PX := PX) (Dg := Dg) (A := A) (ad := ad) (xa := fun n => n) (l := l) (X := (fun _ => True)) hPX hsl (fun _ _ h _ => h) (fun _ _ _ h => absurd h List.not_mem_nil)
  have qEM := rxQEM (PX := PX) (Dg := Dg) (A := A) (ad := ad) (xa := fun n => n) (l := l) (X := (fun _ => True)) hPX hsl (fun _ _ h _ => h) (fun _ _ _ h => absurd h List.not_mem_nil)
  have qLF := rxQLF (PX := PX) (Dg := Dg) (A := A) (ad := ad) (xa := fun n => n) (l := l) (X := (fun _ => True)) hPX hsl (fun _ _ h _ => h) (fun _ _ _ h => absurd h List.not_mem_nil) qMU qEM
  have qRP := rxQRP (PX := PX) (Dg := Dg) (A := A) (ad := ad) (xa := fun n => n) (l := l) (X := (fun _ => True)) hPX hsl (fun _ _ h _ => h) (fun _ _ _ h => absurd h List.not_mem_nil) qOB qPP qPA qLF
  have qRN := rxQRN (PX := PX) (Dg := Dg) (A := A) (ad := ad) (xa := fun n => n) (l := l) (X := (fun _ => True)) hPX hsl (fun _ _ h _ => h) (fun _ _ _ h => absurd h List.not_mem_nil) qPU qNX qOB qRP
  have qBI := rxQBI (PX := PX) (Dg := Dg) (A := A) (ad := ad) (xa := fun n => n) (l := l) (X := (fun _ => True)) hPX hsl (fun _ _ h _ => h) (fun _ _ _ h => absurd h List.not_mem_nil)
  have qST := rxQST (PX := PX) (Dg := Dg) (A := A) (ad := ad) (xa := fun n => n) (l := l) (X := (fun _ => True)) hPX hsl (fun _ _ h _ => h) (fun _ _ _ h => absurd h List.not_mem_nil) qEM
  have qIN := rxQIN (PX := PX) (Dg := Dg) (A := A) (ad := ad) (xa := fun n => n) (l := l) (X := (fun _ => True)) hPX hsl (fun _ _ h _ => h) (fun _ _ _ h => absurd h List.not_mem_nil)
  have qIS := rxQIS (PX := PX) (Dg := Dg) (A := A) (ad := ad) (xa := fun n => n) (l := l) (X := (fun _ => True)) hPX hsl (fun _ _ h _ => h) (fun _ _ _ h => absurd h List.not_mem_nil)
  have qIC := rxQIC (PX := PX) (Dg := Dg) (A := A) (ad := ad) (xa := fun n => n) (l := l) (X := (fun _ => True)) hPX hsl (fun _ _ h _ => h) (fun _ _ _ h => absurd h List.not_mem_nil)
  have qBS := rxQBS (PX := PX) (Dg := Dg) (A := A) (ad := ad) (xa := fun n => n) (l := l) (X := (fun _ => True)) hPX hsl (fun _ _ h _ => h) (fun _ _ _ h => absurd h List.not_mem_nil) qBI qST qPU qNX qIN qIS qMU qIC
  have qBT := rxQBT (PX := PX) (Dg := Dg) (A := A) (ad := ad) (xa := fun n => n) (l := l) (X := (fun _ => True)) hPX hsl (fun _ _ h _ => h) (fun _ _ _ h => absurd h List.not_mem_nil) qST qPU qEM qNX qIN qIS qMU
  have qRE := rxQRE (PX := PX) (Dg := Dg) (A := A) (ad := ad) (xa := fun n => n) (l := l) (X := (fun _ => True)) hPX hsl (fun _ _ h _ => h) (fun _ _ _ h => absurd h List.not_mem_nil) qRN qRP qBS qBT qST
  have qRL := rxQRL (PX := PX) (Dg := Dg) (A := A) (ad := ad) (xa := fun n => n) (l := l) (X := (fun _ => True)) hPX hsl (fun _ _ h _ => h) (fun _ _ _ h => absurd h List.not_mem_nil) qMU qRE qNX
  have qET := rxQET (PX := PX) (Dg := Dg) (A := A) (ad := ad) (xa := fun n => n) (l := l) (X := (fun _ => True)) hPX hsl (fun _ _ h _ => h) (fun _ _ _ h => absurd h List.not_mem_nil) qMU
  have q242 := rxQ242 (PX := PX) (Dg := Dg) (A := A) (ad := ad) (xa := fun n => n) (l := l) (X := (fun _ => True)) hPX hsl (fun _ _ h _ => h) (fun _ _ _ h => absurd h List.not_mem_nil) qBX qRL qNX qET
  exact (rx_conX q242 (fun S0 ws h => h) (fun S0 ws S w _ _ h => h)).con fun _ _ => trivial
set_option maxHeartbeats 1000000 in
theorem rxH289 {PX : State → Prop} {Dg : va_G} {A : Nat → Prop} {ad : Nat → Nat} {l : Launch} (hPX : rx_PXOK rxNW A PX) (hsl : ∀ s : State, PX s → ∀ o idx n : Nat, rxSl o idx = some n → ∃ tx : String, vk_R (rxNm o) idx tx (ad n) s)
     : bx_Con rxG rxNW rxAO PX Dg rxL rxX vwCl A ad l rxM289 rxC289 := by
  have qRA := rxQRA (PX := PX) (Dg := Dg) (A := A) (ad := ad) (xa := fun n => n) (l := l) (X := rxX) hPX hsl (fun _ _ h hm => rxX_of (by decide +kernel) h hm) (fun _ _ _ h => absurd h List.not_mem_nil)
  have qSO := rxQSO (PX := PX) (Dg := Dg) (A := A) (ad := ad) (xa := fun n => n) (l := l) (X := rxX) hPX hsl (fun _ _ h hm => rxX_of (by decide +kernel) h hm) (fun _ _ _ h => absurd h List.not_mem_nil) qRA
  have q289 := rxQ289 (PX := PX) (Dg := Dg) (A := A) (ad := ad) (xa := fun n => n) (l := l) (X := rxX) hPX hsl (fun _ _ h hm => rxX_of (by decide +kernel) h hm) (fun _ _ _ h => absurd h List.not_mem_nil) qSO
  exact rx_conA q289 fun S0 ws h _ => h
set_option maxHeartbeats 1000000 in
theorem rxH303 {PX : State → Prop} {Dg : va_G} {A : Nat → Prop} {ad : Nat → Nat} {l : Launch} (hPX : rx_PXOK rxNW A PX) (hsl : ∀ s : State, PX s → ∀ o idx n : Nat, rxSl o idx = some n → ∃ tx : String, vk_R (rxNm o) idx tx (ad n) s)
     : bx_Con rxG rxNW rxAO PX Dg rxL rxX vwCl A ad l rxM303 rxC303 := by
  have qFR := rxQFR (PX := PX) (Dg := Dg) (A := A) (ad := ad) (xa := fun n => n) (l := l) (X := rxX) hPX hsl (fun _ _ h hm => rxX_of (by decide +kernel) h hm) (fun _ _ _ h => absurd h List.not_mem_nil)
  have q303 := rxQ303 (PX := PX) (Dg := Dg) (A := A) (ad := ad) (xa := fun n => n) (l := l) (X := rxX) hPX hsl (fun _ _ h hm => rxX_of (by decide +kernel) h hm) (fun _ _ _ h => absurd h List.not_mem_nil) qFR
  exact q303.con fun _ _ => trivial
set_option maxHeartbeats 1000000 in
theorem rxH306 {PX : State → Prop} {Dg : va_G} {A : Nat → Prop} {ad : Nat → Nat} {l : Launch} (hPX : rx_PXOK rxNW A PX) (hsl : ∀ s : State, PX s → ∀ o idx n : Nat, rxSl o idx = some n → ∃ tx : String, vk_R (rxNm o) idx tx (ad n) s)
     : bx_Con rxG rxNW rxAO PX Dg rxL rxX vwCl A ad l rxM306 rxC306 := by
  have q306 := rxQ306 (PX := PX) (Dg := Dg) (A := A) (ad := ad) (xa := fun n => n) (l := l) (X := rxX) hPX hsl (fun _ _ h hm => rxX_of (by decide +kernel) h hm) (fun _ _ _ h => absurd h List.not_mem_nil)
  exact q306.con fun _ _ => trivial
set_option maxHeartbeats 1000000 in
theorem rxH317 {PX : State → Prop} {Dg : va_G} {A : Nat → Prop} {ad : Nat → Nat} {l : Launch} (hPX : rx_PXOK rxNW A PX) (hsl : ∀ s : State, PX s → ∀ o idx n : Nat, rxSl o idx = some n → ∃ tx : String, vk_R (rxNm o) idx tx (ad n) s)
    (ih : ∀ (j : Nat) (ct : bx_Ct) (M : rx_Mt), ct ∈ rxCn j → ct.2.2.2.1 + 1 ≤ rxC317.2.2.2.1 → rxT.2.2.2.2.2 j = some M → bx_Con rxG rxNW rxAO PX Dg rxL rxX vwCl A ad l M ct) : bx_Con rxG rxNW rxAO PX Dg rxL rxX vwCl A ad l rxM317 rxC317 := by
  have qKC := rxQKC (PX := PX) (Dg := Dg) (A := A) (ad := ad) (xa := fun n => n) (l := l) (X := rxX) hPX hsl (fun _ _ h hm => rxX_of (by decide +kernel) h hm) (fun _ _ _ h => absurd h List.not_mem_nil)
  have qCP := rxQCP (PX := PX) (Dg := Dg) (A := A) (ad := ad) (xa := fun n => n) (l := l) (X := rxX) hPX hsl (fun _ _ h hm => rxX_of (by decide +kernel) h hm) (fun _ _ _ h => absurd h List.not_mem_nil)
  have q317 := rxQ317 (PX := PX) (Dg := Dg) (A := A) (ad := ad) (xa := fun n => n) (l := l) (X := rxX) hPX hsl (fun _ _ h hm => rxX_of (by decide +kernel) h hm) (fun j2 ct2 M2 hc hd hM => ih j2 ct2 M2 hc (Nat.le_trans hd (by decide)) hM) qKC qCP
  exact q317.con fun _ _ => trivial
set_option maxHeartbeats 1000000 in
theorem rxH324 {PX : State → Prop} {Dg : va_G} {A : Nat → Prop} {ad : Nat → Nat} {l : Launch} (hPX : rx_PXOK rxNW A PX) (hsl : ∀ s : State, PX s → ∀ o idx n : Nat, rxSl o idx = some n → ∃ tx : String, vk_R (rxNm o) idx tx (ad n) s)
     : bx_Con rxG rxNW rxAO PX Dg rxL rxX vwCl A ad l rxM324 rxC324 := by
  have qFR2 := rxQFR2 (PX := PX) (Dg := Dg) (A := A) (ad := ad) (xa := fun n => n) (l := l) (X := rxX) hPX hsl (fun _ _ h hm => rxX_of (by decide +kernel) h hm) (fun _ _ _ h => absurd h List.not_mem_nil)
  have qIL := rxQIL (PX := PX) (Dg := Dg) (A := A) (ad := ad) (xa := fun n => n) (l := l) (X := rxX) hPX hsl (fun _ _ h hm => rxX_of (by decide +kernel) h hm) (fun _ _ _ h => absurd h List.not_mem_nil)
  have qME := rxQME (PX := PX) (Dg := Dg) (A := A) (ad := ad) (xa := fun n => n) (l := l) (X := rxX) hPX hsl (fun _ _ h hm => rxX_of (by decide +kernel) h hm) (fun _ _ _ h => absurd h List.not_mem_nil) qIL
  have qTB := rxQTB (PX := PX) (Dg := Dg) (A := A) (ad := ad) (xa := fun n => n) (l := l) (X := rxX) hPX hsl (fun _ _ h hm => rxX_of (by decide +kernel) h hm) (fun _ _ _ h => absurd h List.not_mem_nil)
  have qGO := rxQGO (PX := PX) (Dg := Dg) (A := A) (ad := ad) (xa := fun n => n) (l := l) (X := rxX) hPX hsl (fun _ _ h hm => rxX_of (by decide +kernel) h hm) (fun _ _ _ h => absurd h List.not_mem_nil) qIL
  have qFW := rxQFW (PX := PX) (Dg := Dg) (A := A) (ad := ad) (xa := fun n => n) (l := l) (X := rxX) hPX hsl (fun _ _ h hm => rxX_of (by decide +kernel) h hm) (fun _ _ _ h => absurd h List.not_mem_nil) qME qTB qGO
  have q324 := rxQ324 (PX := PX) (Dg := Dg) (A := A) (ad := ad) (xa := fun n => n) (l := l) (X := rxX) hPX hsl (fun _ _ h hm => rxX_of (by decide +kernel) h hm) (fun _ _ _ h => absurd h List.not_mem_nil) qFR2 qFW
  exact q324.con fun _ _ => trivial
/-- every contract of both classes holds -/
theorem rxEvery {PX : State → Prop} {Dg : va_G} {A : Nat → Prop} {ad av : Nat → Nat} {l : Launch} (hPX : rx_PXOK rxNW A PX) (hsl : ∀ s : State, PX s → ∀ o idx n : Nat, rxSl o idx = some n → ∃ tx : String, vk_R (rxNm o) idx tx (ad n) s) (hstr : rx_hstr PX A ad av) : ∀ (n j : Nat) (ct : bx_Ct) (M : rx_Mt), ct ∈ rxCn j → ct.2.2.2.1 ≤ n → rxT.2.2.2.2.2 j = some M → bx_Con rxG rxNW rxAO PX Dg rxL rxX vwCl A ad l M ct := by
  refine rxAll hPX (fun ms hx S S_p h hm => rxX_of hx h hm) hsl ?_
  intro n ih j ct M hj hct hd hM
  unfold rxHand at hj
  obtain ⟨i, hi, he⟩ := List.any_eq_true.mp hj
  have e := eq_of_beq he
  subst e
  unfold rxHandL at hi
  simp only [List.mem_cons, List.not_mem_nil, or_false] at hi
  rcases hi with rfl | rfl | rfl | rfl | rfl | rfl | rfl | rfl | rfl | rfl | rfl | rfl | rfl | rfl | rfl | rfl | rfl
  · have e1 : ct = rxC59 := List.mem_singleton.mp (show ct ∈ [rxC59] from hct)
    have e2 : M = rxM59 := Option.some.inj (hM.symm.trans (rfl : rxT.2.2.2.2.2 59 = some rxM59))
    subst e1
    subst e2
    exact rxH59 hPX hsl hstr
  · have e1 : ct = rxC177 := List.mem_singleton.mp (show ct ∈ [rxC177] from hct)
    have e2 : M = rxM177 := Option.some.inj (hM.symm.trans (rfl : rxT.2.2.2.2.2 177 = some rxM177))
    subst e1
    subst e2
    exact rxH177 hPX hsl
  · have e1 : ct = rxC181 := List.mem_singleton.mp (show ct ∈ [rxC181] from hct)
    have e2 : M = rxM181 := Option.some.inj (hM.symm.trans (rfl : rxT.2.2.2.2.2 181 = some rxM181))
    subst e1
    subst e2
    exact rxH181 hPX hsl (fun j2 ct2 M2 hc hd2 hM2 => ih j2 ct2 M2 hc (Nat.le_trans hd2 hd) hM2)
  · have e1 : ct = rxC187 := List.mem_singleton.mp (show ct ∈ [rxC187] from hct)
    have e2 : M = rxM187 := Option.some.inj (hM.symm.trans (rfl : rxT.2.2.2.2.2 187 = some rxM187))
    subst e1
    subst e2
    exact rxH187 hPX hsl
  · have e1 : ct = rxC189 := List.mem_singleton.mp (show ct ∈ [rxC189] from hct)
    have e2 : M = rxM189 := Option.some.inj (hM.symm.trans (rfl : rxT.2.2.2.2.2 189 = some rxM189))
    subst e1
    subst e2
    exact rxH189 hPX hsl (fun j2 ct2 M2 hc hd2 hM2 => ih j2 ct2 M2 hc (Nat.le_trans hd2 hd) hM2)
  · have e1 : ct = rxC209 := List.mem_singleton.mp (show ct ∈ [rxC209] from hct)
    have e2 : M = rxM209 := Option.some.inj (hM.symm.trans (rfl : rxT.2.2.2.2.2 209 = some rxM209))
    subst e1
    subst e2
    exact (rxH209 hPX hsl).con fun _ _ => trivial
  · have e1 : ct = rxC211 := List.mem_singleton.mp (show ct ∈ [rxC211] from hct)
    have e2 : M = rxM211 := Option.some.inj (hM.symm.trans (rfl : rxT.2.2.2.2.2 211 = some rxM211))
    subst e1
    subst e2
    exact rxH211 hPX hsl
  · have e1 : ct = rxC236 := List.mem_singleton.mp (show ct ∈ [rxC236] from hct)
    have e2 : M = rxM236 := Option.some.inj (hM.symm.trans (rfl : rxT.2.2.2.2.2 236 = some rxM236))
    subst e1
    subst e2
    exact rxH236 hPX hsl
  · have e1 : ct = rxC240 := List.mem_singleton.mp (show ct ∈ [rxC240] from hct)
    have e2 : M = rxM240 := Option.some.inj (hM.symm.trans (rfl : rxT.2.2.2.2.2 240 = some rxM240))
    subst e1
    subst e2
    exact rxH240 hPX hsl
  · have e1 : ct = rxC242 := List.mem_singleton.mp (show ct ∈ [rxC242] from hct)
    have e2 : M = rxM242 := Option.some.inj (hM.symm.trans (rfl : rxT.2.2.2.2.2 242 = some rxM242))
    subst e1
    subst e2
    exact rxH242 hPX hsl
  · have e1 : ct = rxC289 := List.mem_singleton.mp (show ct ∈ [rxC289] from hct)
    have e2 : M = rxM289 := Option.some.inj (hM.symm.trans (rfl : rxT.2.2.2.2.2 289 = some rxM289))
    subst e1
    subst e2
    exact rxH289 hPX hsl
  · have e1 : ct = rxC303 := List.mem_singleton.mp (show ct ∈ [rxC303] from hct)
    have e2 : M = rxM303 := Option.some.inj (hM.symm.trans (rfl : rxT.2.2.2.2.2 303 = some rxM303))
    subst e1
    subst e2
    exact rxH303 hPX hsl
  · have e1 : ct = rxC306 := List.mem_singleton.mp (show ct ∈ [rxC306] from hct)
    have e2 : M = rxM306 := Option.some.inj (hM.symm.trans (rfl : rxT.2.2.2.2.2 306 = some rxM306))
    subst e1
    subst e2
    exact rxH306 hPX hsl
  · exact absurd (show ct ∈ ([] : List bx_Ct) from hct) List.not_mem_nil
  · exact absurd (show ct ∈ ([] : List bx_Ct) from hct) List.not_mem_nil
  · have e1 : ct = rxC317 := List.mem_singleton.mp (show ct ∈ [rxC317] from hct)
    have e2 : M = rxM317 := Option.some.inj (hM.symm.trans (rfl : rxT.2.2.2.2.2 317 = some rxM317))
    subst e1
    subst e2
    exact rxH317 hPX hsl (fun j2 ct2 M2 hc hd2 hM2 => ih j2 ct2 M2 hc (Nat.le_trans hd2 hd) hM2)
  · have e1 : ct = rxC324 := List.mem_singleton.mp (show ct ∈ [rxC324] from hct)
    have e2 : M = rxM324 := Option.some.inj (hM.symm.trans (rfl : rxT.2.2.2.2.2 324 = some rxM324))
    subst e1
    subst e2
    exact rxH324 hPX hsl
