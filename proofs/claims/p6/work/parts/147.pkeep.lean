/-! THE PARSER: what steps keep -/
theorem rx_sameR2 {ms : List (Nat × Nat)} {S0 S : Nat → Int → Int} (h : bx_same rxL (bx_mdl ms) S0 S) {p tc n g : Nat} {j : Int} (hk : rxL.1 p = .inr (tc, n, g)) (hp : p < 522) (h1 : bx_mdl ms (1000 + g) 0 = false) (h2 : bx_mdl ms (1000 + g) 1 = false) (h0 : 0 ≤ j) (hj : j < (n : Int)) (hg : g ≠ 63 := by decide) : S p j = S0 p j := by
  have := h p j.toNat hp (by rw [hk]; show j.toNat < n; omega) (by
    rw [hk]
    show bx_mdl ms (1000 + g) (bx_sk g j.toNat) = false
    unfold bx_sk
    rw [if_neg hg]
    split
    · exact h1
    · exact h2)
  rwa [Int.toNat_of_nonneg h0] at this
/-- code and pile are as they were -/
def rxSm (S S_p : Nat → Int → Int) : Prop := S_p 480 18 = S 480 18 ∧ S_p 480 24 = S 480 24 ∧ S_p 480 25 = S 480 25 ∧ ∀ i : Int, 0 ≤ i → i < 400 → S_p 487 i = S 487 i ∧ S_p 488 i = S 488 i ∧ S_p 489 i = S 489 i ∧ S_p 490 i = S 490 i
theorem rxSm_of {ms : List (Nat × Nat)} {S S_p : Nat → Int → Int} (h : bx_same rxL (bx_mdl ms) S S_p) (h1 : [(12, 18), (12, 24), (12, 25), (1068, 0), (1068, 1), (1069, 0), (1069, 1), (1070, 0), (1070, 1), (1071, 0), (1071, 1)].all (fun q => !(bx_mdl ms q.1 q.2)) = true) : rxSm S S_p := by
  have hq : ∀ a b : Nat, (a, b) ∈ [(12, 18), (12, 24), (12, 25), (1068, 0), (1068, 1), (1069, 0), (1069, 1), (1070, 0), (1070, 1), (1071, 0), (1071, 1)] → bx_mdl ms a b = false := fun a b hm => by
    have := List.all_eq_true.mp h1 (a, b) hm
    rw [Bool.not_eq_true'] at this
    exact this
  refine ⟨?_, ?_, ?_, fun i h0 hi => ⟨?_, ?_, ?_, ?_⟩⟩
  · exact rx_sameO h (p := 480) (j := 18) rfl (by omega) (hq 12 18 (by decide)) (by decide)
  · exact rx_sameO h (p := 480) (j := 24) rfl (by omega) (hq 12 24 (by decide)) (by decide)
  · exact rx_sameO h (p := 480) (j := 25) rfl (by omega) (hq 12 25 (by decide)) (by decide)
  · exact rx_sameR2 h (p := 487) (tc := 0) (n := 400) (g := 68) rfl (by omega) (hq 1068 0 (by decide)) (hq 1068 1 (by decide)) h0 (by omega)
  · exact rx_sameR2 h (p := 488) (tc := 0) (n := 400) (g := 69) rfl (by omega) (hq 1069 0 (by decide)) (hq 1069 1 (by decide)) h0 (by omega)
  · exact rx_sameR2 h (p := 489) (tc := 0) (n := 400) (g := 70) rfl (by omega) (hq 1070 0 (by decide)) (hq 1070 1 (by decide)) h0 (by omega)
  · exact rx_sameR2 h (p := 490) (tc := 0) (n := 400) (g := 71) rfl (by omega) (hq 1071 0 (by decide)) (hq 1071 1 (by decide)) h0 (by omega)
theorem rxSm.pz {S S_p : Nat → Int → Int} (h : rxSm S S_p) (hz : rxPz S) (hp : S 480 24 ≤ 400) : rxPz S_p := rxPz_cg hz h.1 h.2.1 h.2.2.1 (fun i a b => (h.2.2.2 i a (by omega)).2.2.1) (fun i a b => (h.2.2.2 i a (by omega)).2.2.2)
/-- what becomes of the code: from c values to c' -/
def rxEf (S S_p : Nat → Int → Int) (c c' : Int) : Prop := ∀ first : Int, 0 ≤ first → rxWz S first c → rxWz S_p first c' ∧ rxKp S S_p first
theorem rxSm.ef {S S_p : Nat → Int → Int} (h : rxSm S S_p) (hp : S 480 24 ≤ 400) (hn : S 480 18 ≤ 400) (c : Int) : rxEf S S_p c c := fun first h0 hw => by
  have hf : first ≤ S 480 18 := by
    obtain ⟨d, a0, a1, -⟩ := hw
    exact a1
  exact ⟨rxWz_cg hw h0 h.1 h.2.1 (fun i a b => (h.2.2.2 i a (by omega)).2.2.1) (fun i a b => (h.2.2.2 i a (by omega)).2.2.2) (fun i a b => (h.2.2.2 i a (by omega)).1) (fun i a b => (h.2.2.2 i a (by omega)).2.1), fun k a b => ⟨(h.2.2.2 k a (by omega)).1, (h.2.2.2 k a (by omega)).2.1⟩⟩
theorem rxEf.tr {S S1 S2 : Nat → Int → Int} {c c1 c2 : Int} (h : rxEf S S1 c c1) (h2 : rxEf S1 S2 c1 c2) : rxEf S S2 c c2 := fun first h0 hw => by
  obtain ⟨a1, a2⟩ := h first h0 hw
  obtain ⟨b1, b2⟩ := h2 first h0 a1
  exact ⟨b1, fun k k0 k1 => ⟨(b2 k k0 k1).1.trans (a2 k k0 k1).1, (b2 k k0 k1).2.trans (a2 k k0 k1).2⟩⟩
theorem rxEf.rf {S : Nat → Int → Int} {c : Int} : rxEf S S c c := fun first h0 hw => ⟨hw, fun k _ _ => ⟨rfl, rfl⟩⟩
theorem rxNoSq.sm {S S_p : Nat → Int → Int} (h : rxNoSq S) (hs : rxSm S S_p) (hp : S 480 24 ≤ 400) : rxNoSq S_p := fun i a b => by
  rw [hs.2.1] at b
  rw [(hs.2.2.2 i a (by omega)).2.2.1]
  exact h i a b
/-- a push, by its exact effect; f25: brackets opened beside it -/
def rxPuE (S : Nat → Int → Int) (op at_ : Int) : Nat → Int → Int := bx_up (bx_up (bx_up S 489 (S 480 24) op) 490 (S 480 24) at_) 480 24 (S 480 24 + 1)
def rxEmE (S : Nat → Int → Int) (op arg : Int) : Nat → Int → Int := bx_up (bx_up (bx_up S 487 (S 480 18) op) 488 (S 480 18) arg) 480 18 (S 480 18 + 1)
theorem rxPuE_pz {S : Nat → Int → Int} {op : Int} (h : rxPz S) (hp : 0 ≤ S 480 24) (h20 : 20 ≤ op) (h28 : op ≤ 28) (hs : (20 ≤ op ∧ op ≤ 24) ∨ rxNoSq S) : rxPz (rxPuE S op 0) := by
  unfold rxPuE
  exact rxPz_push (op := op) h hp (by simp [bx_up]) (by simp [bx_up]) (fun i hi => by simp [bx_up, hi]) (fun i hi => by simp [bx_up, hi]) (by simp [bx_up]) h20 (by rw [if_neg (by omega)]; simp [bx_up]) (fun q => by rcases q with q | q <;> omega) (hs.imp id Or.inr)
theorem rxPuE_ef {S : Nat → Int → Int} {op c c' : Int} (hp : 0 ≤ S 480 24) (hj : ¬ rxJmp op) (hc : c' = c - (if 20 ≤ op ∧ op ≤ 27 then 1 else 0)) : rxEf S (rxPuE S op 0) c c' := fun first h0 hw => by
  refine ⟨?_, fun k _ _ => ?_⟩
  · unfold rxPuE
    exact rxWz_push (op := op) hw h0 hp (by simp [bx_up]) (by simp [bx_up]) (funext fun x => by simp [bx_up]) (funext fun x => by simp [bx_up]) (fun i hi => by simp [bx_up, hi]) (fun i hi => by simp [bx_up, hi]) (by simp [bx_up]) hj hc
  · unfold rxPuE
    exact ⟨by simp [bx_up], by simp [bx_up]⟩
theorem rxPuE_sq {S : Nat → Int → Int} {op : Int} (h : rxNoSq S) (ho : op ≠ 32) : rxNoSq (rxPuE S op 0) := fun i a b => by
  unfold rxPuE at b ⊢
  have e24 : bx_up (bx_up (bx_up S 489 (S 480 24) op) 490 (S 480 24) 0) 480 24 (S 480 24 + 1) 480 24 = S 480 24 + 1 := by simp [bx_up]
  rw [e24] at b
  by_cases hi : i = S 480 24
  · subst hi
    simp [bx_up]
    exact ho
  · have e : bx_up (bx_up (bx_up S 489 (S 480 24) op) 490 (S 480 24) 0) 480 24 (S 480 24 + 1) 489 i = S 489 i := by simp [bx_up, hi]
    rw [e]
    exact h i a (by omega)
/-- a bracket, with the count -/
theorem rxPuB_pz {S : Nat → Int → Int} {op : Int} (h : rxPz S) (hp : 0 ≤ S 480 24) (h31 : op = 31 ∨ op = 32) (hs : op = 32 ∨ rxNoSq S) : rxPz (rxPuE (bx_up S 480 25 (S 480 25 + 1)) op 0) := by
  unfold rxPuE
  exact rxPz_push (op := op) h hp (by simp [bx_up]) (by simp [bx_up]) (fun i hi => by simp [bx_up, hi]) (fun i hi => by simp [bx_up, hi]) (by simp [bx_up]) (by omega) (by rw [if_pos (by omega)]; simp [bx_up]) (fun q => by rcases q with q | q <;> omega) (Or.inr hs)
theorem rxPuB_ef {S : Nat → Int → Int} {op c : Int} (hp : 0 ≤ S 480 24) (h31 : op = 31 ∨ op = 32) : rxEf S (rxPuE (bx_up S 480 25 (S 480 25 + 1)) op 0) c c := fun first h0 hw => by
  refine ⟨?_, fun k _ _ => ?_⟩
  · unfold rxPuE
    exact rxWz_push (op := op) hw h0 hp (by simp [bx_up]) (by simp [bx_up]) (funext fun x => by simp [bx_up]) (funext fun x => by simp [bx_up]) (fun i hi => by simp [bx_up, hi]) (fun i hi => by simp [bx_up, hi]) (by simp [bx_up]) (fun q => by rcases q with q | q <;> omega) (by rw [if_neg (by omega)]; omega)
  · unfold rxPuE
    exact ⟨by simp [bx_up], by simp [bx_up]⟩
/-- a leaf -/
theorem rxEmE_pz {S : Nat → Int → Int} {op arg : Int} (h : rxPz S) : rxPz (rxEmE S op arg) := by
  unfold rxEmE
  exact rxPz_emit h (by simp [bx_up]; omega) (by simp [bx_up]) (by simp [bx_up]) (funext fun x => by simp [bx_up]) (funext fun x => by simp [bx_up])
theorem rxLeaf_ef {S : Nat → Int → Int} {op arg : Int} (hop : 0 ≤ op ∧ op ≤ 8) : rxEf S (rxEmE S op arg) 0 1 := fun first h0 hw => by
  have hf : first ≤ S 480 18 := by
    obtain ⟨d, a0, a1, -⟩ := hw
    exact a1
  have hnn := rxNb_nn (S := S) (n := S 480 24)
  refine ⟨?_, fun k k0 k1 => ?_⟩
  · unfold rxEmE
    refine rxWz_emit (op := op) (c' := 1) hw h0 (by simp [bx_up]) (by simp [bx_up]) (funext fun x => by simp [bx_up]) (funext fun x => by simp [bx_up]) (fun i hi => by simp [bx_up, hi]) (fun i hi => by simp [bx_up, hi]) (by simp [bx_up]) (fun d q1 q2 => ?_) (by omega) (by omega)
    unfold rxIok
    exact ⟨fun _ => ⟨hop.1, hop.2, by omega⟩, fun q => by omega, fun q => by omega, fun q => by rcases q with q | q <;> omega, by omega⟩
  · unfold rxEmE
    have hk : k ≠ S 480 18 := by omega
    exact ⟨by simp [bx_up, hk], by simp [bx_up, hk]⟩
/-- between tokens -/
def rxPt (S : Nat → Int → Int) : Prop := rxTk S ∧ rxPz S ∧ 0 ≤ S 480 24 ∧ S 480 18 + S 480 24 ≤ S 480 9
theorem rxBox18 {S : Nat → Int → Int} (h : bx_Inv rxL S) : 0 ≤ S 480 18 ∧ S 480 18 ≤ 400 := h 480 18 (by decide) (by decide)
theorem rxBox24 {S : Nat → Int → Int} (h : bx_Inv rxL S) : 0 ≤ S 480 24 ∧ S 480 24 ≤ 400 := h 480 24 (by decide) (by decide)
theorem rxBox25 {S : Nat → Int → Int} (h : bx_Inv rxL S) : 0 ≤ S 480 25 ∧ S 480 25 ≤ 8 := h 480 25 (by decide) (by decide)
theorem rxBox14 {S : Nat → Int → Int} (h : bx_Inv rxL S) : 0 ≤ S 480 14 ∧ S 480 14 ≤ 1 := h 480 14 (by decide) (by decide)
theorem rxBox8 {S : Nat → Int → Int} (h : bx_Inv rxL S) : 0 ≤ S 480 8 ∧ S 480 8 ≤ 400 := h 480 8 (by decide) (by decide)
