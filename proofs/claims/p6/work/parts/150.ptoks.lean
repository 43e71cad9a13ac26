/-! THE PARSER: tokens kept, brackets found and closed -/
def rxTm (S S_p : Nat → Int → Int) : Prop := S_p 480 8 = S 480 8 ∧ S_p 480 9 = S 480 9 ∧ S_p 480 10 = S 480 10 ∧ S_p 480 11 = S 480 11 ∧ S_p 480 12 = S 480 12 ∧ S_p 480 14 = S 480 14
theorem rxTm_of {ms : List (Nat × Nat)} {S S_p : Nat → Int → Int} (h : bx_same rxL (bx_mdl ms) S S_p) (h1 : [8, 9, 10, 11, 12, 14].all (fun q => !(bx_mdl ms 12 q)) = true) : rxTm S S_p := by
  have hq : ∀ a : Nat, a ∈ [8, 9, 10, 11, 12, 14] → bx_mdl ms 12 a = false := fun a hm => by
    have := List.all_eq_true.mp h1 a hm
    rw [Bool.not_eq_true'] at this
    exact this
  refine ⟨?_, ?_, ?_, ?_, ?_, ?_⟩
  · exact rx_sameO h (p := 480) (j := 8) rfl (by omega) (hq 8 (by decide)) (by decide)
  · exact rx_sameO h (p := 480) (j := 9) rfl (by omega) (hq 9 (by decide)) (by decide)
  · exact rx_sameO h (p := 480) (j := 10) rfl (by omega) (hq 10 (by decide)) (by decide)
  · exact rx_sameO h (p := 480) (j := 11) rfl (by omega) (hq 11 (by decide)) (by decide)
  · exact rx_sameO h (p := 480) (j := 12) rfl (by omega) (hq 12 (by decide)) (by decide)
  · exact rx_sameO h (p := 480) (j := 14) rfl (by omega) (hq 14 (by decide)) (by decide)
theorem rxTm.tk {S S_p : Nat → Int → Int} (h : rxTm S S_p) (ht : rxTk S) : rxTk S_p := by
  obtain ⟨a1, a2, a3, a4, a5, a6⟩ := h
  unfold rxTk at ht ⊢
  rw [a1, a2, a3, a4, a5]
  exact ht
theorem rxTm.tr {S S1 S2 : Nat → Int → Int} (h : rxTm S S1) (h2 : rxTm S1 S2) : rxTm S S2 := ⟨h2.1.trans h.1, h2.2.1.trans h.2.1, h2.2.2.1.trans h.2.2.1, h2.2.2.2.1.trans h.2.2.2.1, h2.2.2.2.2.1.trans h.2.2.2.2.1, h2.2.2.2.2.2.trans h.2.2.2.2.2⟩
theorem rxTm_pu {S : Nat → Int → Int} {op a : Int} : rxTm S (rxPuE S op a) := by
  unfold rxPuE
  exact ⟨by simp [bx_up], by simp [bx_up], by simp [bx_up], by simp [bx_up], by simp [bx_up], by simp [bx_up]⟩
theorem rxTm_em {S : Nat → Int → Int} {op a : Int} : rxTm S (rxEmE S op a) := by
  unfold rxEmE
  exact ⟨by simp [bx_up], by simp [bx_up], by simp [bx_up], by simp [bx_up], by simp [bx_up], by simp [bx_up]⟩
theorem rxSt_ef {S0 S : Nat → Int → Int} {l : Int} (h : rxSt S0 S l) : rxEf S0 S 1 1 := fun first h0 hw => h.2.2.2.2.2.2.2.2.2 first h0 hw
theorem rxSt_sq {S0 S : Nat → Int → Int} {l : Int} (h : rxSt S0 S l) (hs : rxNoSq S0) : rxNoSq S := by
  obtain ⟨a1, a2, a3, a4, a5, a6, a7, a8, a9, a10⟩ := h
  intro i g0 g1
  rw [a7]
  exact hs i g0 (by omega)
theorem rxPt_nx {S S_p : Nat → Int → Int} (h : rxSm S S_p) (ht : rxTk S_p) (hz : rxPz S) (h0 : 0 ≤ S 480 24) (h4 : S 480 24 ≤ 400) (hs : S 480 18 + S 480 24 ≤ S_p 480 9) : rxPt S_p := by
  have k18 := h.1
  have k24 := h.2.1
  exact ⟨ht, h.pz hz h4, by omega, by omega⟩
/-- the square bracket lies on top once sums are settled -/
theorem rxSqTop {S0 S : Nat → Int → Int} {b : Int} (hz : rxPz S0) (b0 : 0 ≤ b) (b1 : b < S0 480 24) (b2 : S0 489 b = 32) (b3 : ∀ j : Int, b < j → j < S0 480 24 → S0 489 j < 31) (h : rxSt S0 S 5) (ht : S 480 24 = 0 ∨ rxBd (S 489 (S 480 24 - 1)) < 5) : 1 ≤ S 480 24 ∧ S 489 (S 480 24 - 1) = 32 := by
  obtain ⟨a1, a2, a3, a4, a5, a6, a7, a8, a9, a10⟩ := h
  have hb : b < S 480 24 := by
    by_cases hb : S 480 24 ≤ b
    · have := a9 b hb b1
      rw [b2] at this
      exact absurd this (by decide)
    · omega
  refine ⟨by omega, ?_⟩
  rw [a7] at ht ⊢
  by_cases hq : S 480 24 - 1 = b
  · rw [hq]
    exact b2
  · have h3 := hz.2.2.1 b (S 480 24 - 1) b0 (by omega) (by omega) b2
    have h4 := b3 (S 480 24 - 1) (by omega) (by omega)
    have h5 := rxBd_cases (S0 489 (S 480 24 - 1))
    omega
theorem rxBrTop {S0 S : Nat → Int → Int} {b : Int} (b0 : 0 ≤ b) (b1 : b < S0 480 24) (b2 : 31 ≤ S0 489 b) (h : rxSt S0 S 1) (ht : S 480 24 = 0 ∨ rxBd (S 489 (S 480 24 - 1)) < 1) : 1 ≤ S 480 24 ∧ 31 ≤ S 489 (S 480 24 - 1) := by
  obtain ⟨a1, a2, a3, a4, a5, a6, a7, a8, a9, a10⟩ := h
  have hb : b < S 480 24 := by
    by_cases hb : S 480 24 ≤ b
    · have h1 := a9 b hb b1
      have h5 := rxBd_cases (S0 489 b)
      omega
    · omega
  have h5 := rxBd_cases (S 489 (S 480 24 - 1))
  omega
/-- nothing is left where there was no bracket -/
theorem rxNone {S0 S : Nat → Int → Int} (b3 : ∀ j : Int, 0 ≤ j → j < S0 480 24 → S0 489 j < 31) (h : rxSt S0 S 1) (ht : S 480 24 = 0 ∨ rxBd (S 489 (S 480 24 - 1)) < 1) : S 480 24 = 0 := by
  obtain ⟨a1, a2, a3, a4, a5, a6, a7, a8, a9, a10⟩ := h
  rcases ht with ht | ht
  · exact ht
  · by_cases hq : S 480 24 = 0
    · exact hq
    · have h4 := b3 (S 480 24 - 1) (by omega) (by omega)
      rw [a7] at ht
      have h5 := rxBd_cases (S0 489 (S 480 24 - 1))
      omega
theorem rxOpen1 {S : Nat → Int → Int} (h : rxPz S) (h1 : 1 ≤ S 480 24) (ht : 31 ≤ S 489 (S 480 24 - 1)) : 1 ≤ S 480 25 := by
  have e := rx_cnt_succ (f := rxIsBr S) (n := S 480 24 - 1) (by omega)
  rw [show S 480 24 - 1 + 1 = S 480 24 by omega] at e
  have h2 := h.2.1
  have e2 : rxIsBr S (S 480 24 - 1) = 0 := by
    unfold rxIsBr
    rw [if_pos ht]
  rw [if_neg (by omega)] at e
  omega
/-- a bracket is closed -/
theorem rxPopB {S : Nat → Int → Int} (h : rxPz S) (h1 : 1 ≤ S 480 24) (ht : 31 ≤ S 489 (S 480 24 - 1)) : rxPz (bx_up (bx_up S 480 24 (S 480 24 - 1)) 480 25 (S 480 25 - 1)) ∧ rxEf S (bx_up (bx_up S 480 24 (S 480 24 - 1)) 480 25 (S 480 25 - 1)) 1 1 ∧ (rxNoSq S → rxNoSq (bx_up (bx_up S 480 24 (S 480 24 - 1)) 480 25 (S 480 25 - 1))) := by
  refine ⟨rxPz_pop h h1 (by simp [bx_up]) (by simp [bx_up]) (funext fun x => by simp [bx_up]) (funext fun x => by simp [bx_up]) (by rw [if_pos ht]; simp [bx_up]), fun first f0 hw => ⟨rxWz_pop hw f0 h1 (by simp [bx_up]) (by simp [bx_up]) (funext fun x => by simp [bx_up]) (funext fun x => by simp [bx_up]) (funext fun x => by simp [bx_up]) (funext fun x => by simp [bx_up]) (fun q => by rcases q with q | q <;> omega) (by rw [if_neg (by omega)]; omega), fun k _ _ => ⟨by simp [bx_up], by simp [bx_up]⟩⟩, fun hs i g0 g1 => ?_⟩
  rw [show bx_up (bx_up S 480 24 (S 480 24 - 1)) 480 25 (S 480 25 - 1) 480 24 = S 480 24 - 1 by simp [bx_up]] at g1
  rw [show bx_up (bx_up S 480 24 (S 480 24 - 1)) 480 25 (S 480 25 - 1) 489 i = S 489 i by simp [bx_up]]
  exact hs i g0 (by omega)
/-- an and or an or: piled with its place, then coded -/
theorem rxAo {S : Nat → Int → Int} {op : Int} (h : rxPz S) (hp : 0 ≤ S 480 24) (hj : rxJmp op) (hs : rxNoSq S) : rxPz (rxEmE (rxPuE S op (S 480 18)) op 0) ∧ rxEf S (rxEmE (rxPuE S op (S 480 18)) op 0) 1 0 ∧ rxNoSq (rxEmE (rxPuE S op (S 480 18)) op 0) := by
  have ho : 29 ≤ op ∧ op ≤ 30 := by rcases hj with q | q <;> omega
  have e18 : rxEmE (rxPuE S op (S 480 18)) op 0 480 18 = S 480 18 + 1 := by
    unfold rxEmE rxPuE
    simp [bx_up]
  have e24 : rxEmE (rxPuE S op (S 480 18)) op 0 480 24 = S 480 24 + 1 := by
    unfold rxEmE rxPuE
    simp [bx_up]
  have e25 : rxEmE (rxPuE S op (S 480 18)) op 0 480 25 = S 480 25 := by
    unfold rxEmE rxPuE
    simp [bx_up]
  have e487 : ∀ i : Int, i ≠ S 480 18 → rxEmE (rxPuE S op (S 480 18)) op 0 487 i = S 487 i := fun i hi => by
    unfold rxEmE rxPuE
    simp [bx_up, hi]
  have e488 : ∀ i : Int, i ≠ S 480 18 → rxEmE (rxPuE S op (S 480 18)) op 0 488 i = S 488 i := fun i hi => by
    unfold rxEmE rxPuE
    simp [bx_up, hi]
  have e489 : ∀ i : Int, i ≠ S 480 24 → rxEmE (rxPuE S op (S 480 18)) op 0 489 i = S 489 i := fun i hi => by
    unfold rxEmE rxPuE
    simp [bx_up, hi]
  have e490 : ∀ i : Int, i ≠ S 480 24 → rxEmE (rxPuE S op (S 480 18)) op 0 490 i = S 490 i := fun i hi => by
    unfold rxEmE rxPuE
    simp [bx_up, hi]
  have k487 : rxEmE (rxPuE S op (S 480 18)) op 0 487 (S 480 18) = op := by
    unfold rxEmE rxPuE
    simp [bx_up]
  have k489 : rxEmE (rxPuE S op (S 480 18)) op 0 489 (S 480 24) = op := by
    unfold rxEmE rxPuE
    simp [bx_up]
  have k490 : rxEmE (rxPuE S op (S 480 18)) op 0 490 (S 480 24) = S 480 18 := by
    unfold rxEmE rxPuE
    simp [bx_up]
  refine ⟨rxPz_push (op := op) h hp (by omega) e24 e489 e490 k489 (by omega) (by rw [if_neg (by omega), e25]; omega) (fun _ => by rw [k490, e18]; omega) (Or.inr (Or.inr hs)), fun first f0 hw => ⟨rxWz_ao hw f0 hp e18 e24 e487 e488 e489 e490 k487 k489 k490 hj, fun k k0 k1 => ?_⟩, fun i g0 g1 => ?_⟩
  · have hf : first ≤ S 480 18 := by
      obtain ⟨d, a0, a1, -⟩ := hw
      exact a1
    exact ⟨e487 k (by omega), e488 k (by omega)⟩
  · rw [e24] at g1
    by_cases hi : i = S 480 24
    · rw [hi, k489]
      omega
    · rw [e489 i hi]
      exact hs i g0 (by omega)
