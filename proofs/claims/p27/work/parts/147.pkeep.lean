section
theorem rx_sameR2 {ms : List (Nat × Nat)} {S0 S : Nat → Int → Int} (h : bx_same rxL (bx_mdl ms) S0 S) {p tc n g : Nat} {j : Int} (hk : rxL.1 p = .inr (tc, n, g)) (hp : p < 522) (h1 : bx_mdl ms (1000 + g) 0 = false) (h2 : bx_mdl ms (1000 + g) 1 = false) (h0 : 0 ≤ j) (hj : j < (n : Int)) (hg : g ≠ 63 := by decide) : S p j = S0 p j := by
  have := h p j.toNat hp (by rw [hk]; show j.toNat < n; omega) (by
    rw [hk]
    show bx_mdl ms (1000 + g) (bx_sk g j.toNat) = false
    unfold bx_sk
    rw [if_neg hg]
    split
    · exact h1
    · exact h2)
  rwa [Int.toNat_of_nonneg h0] at this
noncomputable def rxSm (S S_p : Nat → Int → Int) : Prop := S_p 480 18 = S 480 18 ∧ S_p 480 24 = S 480 24 ∧ S_p 480 25 = S 480 25 ∧ ∀ i : Int, 0 ≤ i → i < 400 → S_p 487 i = S 487 i ∧ S_p 488 i = S 488 i ∧ S_p 489 i = S 489 i ∧ S_p 490 i = S 490 i
theorem rxSm_of {ms : List (Nat × Nat)} {S S_p : Nat → Int → Int} (h : bx_same rxL (bx_mdl ms) S S_p) (h1 : [(12, 18), (12, 24), (12, 25), (1068, 0), (1068, 1), (1069, 0), (1069, 1), (1070, 0), (1070, 1), (1071, 0), (1071, 1)].all (fun q => !(bx_mdl ms q.1 q.2)) = true) : rxSm S S_p := by
  have hq : ∀ a b : Nat, (a, b) ∈ [(12, 18), (12, 24), (12, 25), (1068, 0), (1068, 1), (1069, 0), (1069, 1), (1070, 0), (1070, 1), (1071, 0), (1071, 1)] → bx_mdl ms a b = false := fun a b hm => by
    have := List.all_eq_true.mp h1 (a, b) hm
    rw [Bool.not_eq_true'] at this
    exact this
  refine ⟨?_, ?_, ?_, fun i h0 hi => ⟨?_, ?_, ?_, ?_⟩⟩
  · exact rx_sameO h (p := 480) (j := 18) rfl (by omega) (hq 12 18 (by decide)) (by decide)
  · exact rx_sameO h (p := 480) (j := 24) rfl (by omega) (hq 12 24 (by decide)) (by decide)
  · exact rx_sameO h (p := 480) (j := 25) rfl (by omega) (hq 12 25 (by decide)) (by decide)
  · exact rx_sameR2 h (p := 487) (tc := 0) (n := 400) (g := 68) rfl (by omega) (hq 1068 0 (by decide)) (hq 1068 1 (by decide)) h0 (by omega)
  · exact rx_sameR2 h (p := 488) (tc := 0) (n := 400) (g := 69) rfl (by omega) (hq 1069 0 (by decide)) (hq 1069 1 (by decide)) h0 (by omega)
  · exact rx_sameR2 h (p := 489) (tc := 0) (n := 400) (g := 70) rfl (by omega) (hq 1070 0 (by decide)) (hq 1070 1 (by decide)) h0 (by omega)
  · exact rx_sameR2 h (p := 490) (tc := 0) (n := 400) (g := 71) rfl (by omega) (hq 1071 0 (by decide)) (hq 1071 1 (by decide)) h0 (by omega)
theorem rxSm.pz {S S_p : Nat → Int → Int} (h : rxSm S S_p) (hz : rxPz S) (hp : S 480 24 ≤ 400) : rxPz S_p := rxPz_cg hz h.1 h.2.1 h.2.2.1 (fun i a b => (h.2.2.2 i a (by omega)).2.2.1) (fun i a b => (h.2.2.2 i a (by omega)).2.2.2)
noncomputable def rxEf (S S_p : Nat → Int → Int) (c c_p : Int) : Prop := ∀ first : Int, 0 ≤ first → rxWz S first c → rxWz S_p first c_p ∧ rxKp S S_p first
theorem rxSm.ef {S S_p : Nat → Int → Int} (h : rxSm S S_p) (hp : S 480 24 ≤ 400) (hn : S 480 18 ≤ 400) (c : Int) : rxEf S S_p c c := fun first h0 hw => by
  have hf : first ≤ S 480 18 := by
    obtain ⟨d, a0, a1, -⟩ := hw
    exact a1
  exact ⟨rxWz_cg hw h0 h.1 h.2.1 (fun i a b => (h.2.2.2 i a (by omega)).2.2.1) (fun i a b => (h.2.2.2 i a (by omega)).2.2.2) (fun i a b => (h.2.2.2 i a (by omega)).1) (fun i a b => (h.2.2.2 i a (by omega)).2.1), fun k a b => ⟨(h.2.2.2 k a (by omega)).1, (h.2.2.2 k a (by omega)).2.1⟩⟩
theorem rxEf.tr {S S1 S2 : Nat → Int → Int} {c c1 c2 : Int} (h : rxEf S S1 c c1) (h2 : rxEf S1 S2 c1 c2) : rxEf S S2 c c2 := fun first h0 hw => by
  obtain ⟨a1, a2⟩ := h first h0 hw
  obtain ⟨b1, b2⟩ := h2 first h0 a1
  exact ⟨b1, fun k k0 k1 => ⟨(b2 k k0 k1).1.trans (a2 k k0 k1).1, (b2 k k0 k1).2.trans (a2 k k0 k1).2⟩⟩
theorem rxEf.rf {S : Nat → Int → Int} {c : Int} : rxEf S S c c := fun first h0 hw => ⟨hw, fun k _ _ => ⟨rfl, rfl⟩⟩
theorem rxNoSq.sm {S S_p : Nat → Int → Int} (h : rxNoSq S) (hs : rxSm S S_p) (hp : S 480 24 ≤ 400) : rxNoSq S_p := fun i a b => by
  rw [hs.2.1] at b
  rw [(hs.2.2.2 i a (by omega)).2.2.1]
  exact h i a b
noncomputable def rxPuE (S : Nat → Int → Int) (op at_ : Int) : Nat → Int → Int := bx_up (bx_up (bx_up S 489 (S 480 24) op) 490 (S 480 24) at_) 480 24 (S 480 24 + 1)
noncomputable def rxEmE (S : Nat → Int → Int) (op arg : Int) : Nat → Int → Int := bx_up (bx_up (bx_up S 487 (S 480 18) op) 488 (S 480 18) arg) 480 18 (S 480 18 + 1)
theorem rxPuE_pz {S : Nat → Int → Int} {op : Int} (h : rxPz S) (hp : 0 ≤ S 480 24) (h20 : 20 ≤ op) (h28 : op ≤ 28) (hs : (20 ≤ op ∧ op ≤ 24) ∨ rxNoSq S) : rxPz (rxPuE S op 0) := by
  unfold rxPuE
  exact rxPz_push (op := op) h hp (by simp [bx_up]) (by simp [bx_up]) (fun i hi => by simp [bx_up, hi]) (fun i hi => by simp [bx_up, hi]) (by simp [bx_up]) h20 (by rw [if_neg (by omega)]; simp [bx_up]) (fun q => by rcases q with q | q <;> omega) (hs.imp id Or.inr)
theorem rxPuE_ef {S : Nat → Int → Int} {op c c_p : Int} (hp : 0 ≤ S 480 24) (hj : ¬ rxJmp op) (hc : c_p = c - (if 20 ≤ op ∧ op ≤ 27 then 1 else 0)) : rxEf S (rxPuE S op 0) c c_p := fun first h0 hw => by
  refine ⟨?_, fun k _ _ => ?_⟩
  · unfold rxPuE
    exact rxWz_push (op := op) hw h0 hp (by simp [bx_up]) (by simp [bx_up]) (funext fun x => by simp [bx_up]) (funext fun x => by simp [bx_up]) (fun i hi => by simp [bx_up, hi]) (fun i hi => by simp [bx_up, hi]) (by simp [bx_up]) hj hc
  · unfold rxPuE
    exact ⟨by simp [bx_up], by simp [bx_up]⟩
theorem rxPuE_sq {S : Nat → Int → Int} {op : Int} (h : rxNoSq S) (ho : op ≠ 32) : rxNoSq (rxPuE S op 0) := fun i a b => by
  unfold rxPuE at b ⊢
  have e24 : bx_up (bx_up (bx_up S 489 (S 480 24) op) 490 (S 480 24) 0) 480 24 (S 480 24 + 1) 480 24 = S 480 24 + 1 := by simp [bx_up]
  rw [e24] at b
  by_cases hi : i = S 480 24
  · subst hi
    simp [bx_up]
    exact ho
  · have e : bx_up (bx_up (bx_up S 489 (S 480 24) op) 490 (S 480 24) 0) 480 24 (S 480 24 + 1) 489 i = S 489 i := by simp [bx_up, hi]
    rw [e]
    exact h i a (by omega)
theorem rxPuB_pz {S : Nat → Int → Int} {op : Int} (h : rxPz S) (hp : 0 ≤ S 480 24) (h31 : op = 31 ∨ op = 32) (hs : op = 32 ∨ rxNoSq S) : rxPz (rxPuE (bx_up S 480 25 (S 480 25 + 1)) op 0) := by
  unfold rxPuE
  exact rxPz_push (op := op) h hp (by simp [bx_up]) (by simp [bx_up]) (fun i hi => by simp [bx_up, hi]) (fun i hi => by simp [bx_up, hi]) (by simp [bx_up]) (by omega) (by rw [if_pos (by omega)]; simp [bx_up]) (fun q => by rcases q with q | q <;> omega) (Or.inr hs)
theorem rxPuB_ef {S : Nat → Int → Int} {op c : Int} (hp : 0 ≤ S 480 24) (h31 : op = 31 ∨ op = 32) : rxEf S (rxPuE (bx_up S 480 25 (S 480 25 + 1)) op 0) c c := fun first h0 hw => by
  refine ⟨?_, fun k _ _ => ?_⟩
  · unfold rxPuE
    exact rxWz_push (op := op) hw h0 hp (by simp [bx_up]) (by simp [bx_up]) (funext fun x => by simp [bx_up]) (funext fun x => by simp [bx_up]) (fun i hi => by simp [bx_up, hi]) (fun i hi => by simp [bx_up, hi]) (by simp [bx_up]) (fun q => by rcases q with q | q <;> omega) (by rw [if_neg (by omega)]; omega)
  · unfold rxPuE
    exact ⟨by simp [bx_up], by simp [bx_up]⟩
theorem rxEmE_pz {S : Nat → Int → Int} {op arg : Int} (h : rxPz S) : rxPz (rxEmE S op arg) := by
  unfold rxEmE
  exact rxPz_emit h (by simp [bx_up]; omega) (by simp [bx_up]) (by simp [bx_up]) (funext fun x => by simp [bx_up]) (funext fun x => by simp [bx_up])
theorem rxLeaf_ef {S : Nat → Int → Int} {op arg : Int} (hop : 0 ≤ op ∧ op ≤ 8) : rxEf S (rxEmE S op arg) 0 1 := fun first h0 hw => by
  have hf : first ≤ S 480 18 := by
    obtain ⟨d, a0, a1, -⟩ := hw
    exact a1
  have hnn := rxNb_nn (S := S) (n := S 480 24)
  refine ⟨?_, fun k k0 k1 => ?_⟩
  · unfold rxEmE
    refine rxWz_emit (op := op) (c_p := 1) hw h0 (by simp [bx_up]) (by simp [bx_up]) (funext fun x => by simp [bx_up]) (funext fun x => by simp [bx_up]) (fun i hi => by simp [bx_up, hi]) (fun i hi => by simp [bx_up, hi]) (by simp [bx_up]) (fun d q1 q2 => ?_) (by omega) (by omega)
    unfold rxIok
    exact ⟨fun _ => ⟨hop.1, hop.2, by omega⟩, fun q => by omega, fun q => by omega, fun q => by rcases q with q | q <;> omega, by omega⟩
  · unfold rxEmE
    have hk : k ≠ S 480 18 := by omega
    exact ⟨by simp [bx_up, hk], by simp [bx_up, hk]⟩
noncomputable def rxPt (S : Nat → Int → Int) : Prop := rxTk S ∧ rxPz S ∧ 0 ≤ S 480 24 ∧ S 480 18 + S 480 24 ≤ S 480 9
theorem rxBox18 {S : Nat → Int → Int} (h : bx_Inv rxL S) : 0 ≤ S 480 18 ∧ S 480 18 ≤ 400 := h 480 18 (by decide) (by decide)
theorem rxBox24 {S : Nat → Int → Int} (h : bx_Inv rxL S) : 0 ≤ S 480 24 ∧ S 480 24 ≤ 400 := h 480 24 (by decide) (by decide)
theorem rxBox14 {S : Nat → Int → Int} (h : bx_Inv rxL S) : 0 ≤ S 480 14 ∧ S 480 14 ≤ 1 := h 480 14 (by decide) (by decide)
theorem rxBox8 {S : Nat → Int → Int} (h : bx_Inv rxL S) : 0 ≤ S 480 8 ∧ S 480 8 ≤ 400 := h 480 8 (by decide) (by decide)
end
section
noncomputable def rxCOB : bx_Ct := ([(3, (1, 480, 0)), (0, (0, 31, 32))], none, [(12, 9), (12, 10), (12, 11), (12, 12), (12, 13), (12, 14), (12, 24), (12, 25), (1070, 0), (1071, 0)], 3, [])
noncomputable def rxIOB_0 (S0 : Nat → Int → Int) (ws : List Int) (S : Nat → Int → Int) (op : Int) : Prop := S = S0 ∧ ws = [480, op]
noncomputable def rxmOB_0 (S0 : Nat → Int → Int) (ws : List Int) (S : Nat → Int → Int) (op : Int) : Nat := 100
noncomputable def rxzOB_0 : rx_Z := ([(0, 0), (0, 0), (0, 0), (0, 0), (0, 0), (0, 0), (0, 0), (0, 0), (31, 32)], [], [], 0, 0, 0, [(0, .inr (3, (0, 480))), (1, .inr (0, (8, 0)))], [])
noncomputable def rxIOB_1 (S0 : Nat → Int → Int) (ws : List Int) (S : Nat → Int → Int) (op is : Int) : Prop := S = S0 ∧ ws = [480, op] ∧ (is = 1 → S 480 25 < 8)
noncomputable def rxmOB_1 (S0 : Nat → Int → Int) (ws : List Int) (S : Nat → Int → Int) (op is : Int) : Nat := 90
noncomputable def rxzOB_1 : rx_Z := ([(0, 0), (0, 0), (0, 0), (0, 0), (0, 0), (0, 0), (0, 0), (0, 0), (31, 32), (0, 1)], [], [], 0, 0, 15, [(0, .inr (3, (0, 480))), (1, .inr (0, (8, 0)))], [.inr (0, (9, 0)), .inr (3, (0, 480))])
noncomputable def rxIOB_2 (S0 : Nat → Int → Int) (ws : List Int) (S : Nat → Int → Int) (op is : Int) : Prop := ws = [480, op] ∧ rxTk S ∧ rxSm S0 S ∧ (S 480 14 = 0 → S 480 25 < 8 ∧ S0 480 10 ≤ S 480 9) ∧ (S 480 14 ≠ 0 → S 480 9 = S0 480 9)
noncomputable def rxmOB_2 (S0 : Nat → Int → Int) (ws : List Int) (S : Nat → Int → Int) (op is : Int) : Nat := 80
noncomputable def rxzOB_2 : rx_Z := ([(0, 0), (0, 0), (0, 0), (0, 0), (0, 0), (0, 0), (0, 0), (0, 0), (31, 32), (0, 1)], [], [], 0, 0, 18, [(0, .inr (3, (0, 480))), (1, .inr (0, (8, 0)))], [])
noncomputable def rxIOB_3 (S0 : Nat → Int → Int) (ws : List Int) (S : Nat → Int → Int) (op q : Int) : Prop := ws = [480, op] ∧ q = S 480 25 ∧ rxTk S ∧ rxSm S0 S ∧ S 480 14 = 0 ∧ S0 480 10 ≤ S 480 9
noncomputable def rxmOB_3 (S0 : Nat → Int → Int) (ws : List Int) (S : Nat → Int → Int) (op q : Int) : Nat := 70
noncomputable def rxzOB_3 : rx_Z := ([(0, 0), (0, 0), (0, 0), (0, 0), (0, 0), (0, 0), (0, 0), (0, 0), (31, 32), (0, 7)], [], [], 0, 0, 30, [(0, .inr (3, (0, 480))), (1, .inr (0, (8, 0)))], [.inr (0, (9, 0)), .inr (3, (0, 480))])
noncomputable def rxIOB_4 (S0 : Nat → Int → Int) (ws : List Int) (S : Nat → Int → Int) (op op2 : Int) : Prop := op2 = op ∧ ws = [480, op] ∧ ∃ S1 : Nat → Int → Int, S = bx_up S1 480 25 (S1 480 25 + 1) ∧ rxTk S1 ∧ rxSm S0 S1 ∧ S1 480 14 = 0 ∧ S0 480 10 ≤ S1 480 9
noncomputable def rxmOB_4 (S0 : Nat → Int → Int) (ws : List Int) (S : Nat → Int → Int) (op op2 : Int) : Nat := 60
noncomputable def rxzOB_4 : rx_Z := ([(0, 0), (0, 0), (0, 0), (0, 0), (0, 0), (0, 0), (0, 0), (0, 0), (31, 32), (31, 32)], [], [], 0, 0, 38, [(0, .inr (3, (0, 480))), (1, .inr (0, (8, 0)))], [.inr (0, (0, 0)), .inr (0, (9, 0)), .inr (3, (0, 480))])
noncomputable def rxIOB_5 (S0 : Nat → Int → Int) (ws : List Int) (S : Nat → Int → Int) (op op2 : Int) : Prop := rxTk S ∧ rxPz S ∧ 0 ≤ S 480 24 ∧ S 480 18 + S 480 24 ≤ S 480 9 ∧ (S 480 14 = 0 → rxEf S0 S 0 0 ∧ (S0 480 9 < S 480 9 ∧ (op ≠ 32 → rxNoSq S0 → rxNoSq S))) ∧ ws = [480, op]
noncomputable def rxmOB_5 (S0 : Nat → Int → Int) (ws : List Int) (S : Nat → Int → Int) (op op2 : Int) : Nat := 50
noncomputable def rxzOB_5 : rx_Z := ([(0, 0), (0, 0), (0, 0), (0, 0), (0, 0), (0, 0), (0, 0), (0, 0), (31, 32), (31, 32)], [], [], 0, 0, 41, [(0, .inr (3, (0, 480))), (1, .inr (0, (8, 0)))], [])
noncomputable def rxoOB_0_0 : bx_HO := (([(0, 0), (0, 0), (0, 0), (0, 0), (0, 0), (0, 0), (0, 0), (0, 0), (31, 32), (0, 7)], [], [(((0, 0), 1851192626986356802442008000046409524956554626371924516682072064000000), .inr (0, (9, 0))), (((0, 480), 25), .inr (0, (9, 0)))], 0, 0, 15, [(0, .inr (3, (0, 480))), (1, .inr (0, (8, 0)))], [.inr (0, (0, 1)), .inr (3, (0, 480))]), [], [], [(0, 0), (0, 0), (0, 0), (0, 0), (0, 0), (0, 0), (0, 0), (0, 0), (8, 0), (0, 1)], 1)
noncomputable def rxoOB_0_1 : bx_HO := (([(0, 0), (0, 0), (0, 0), (0, 0), (0, 0), (0, 0), (0, 0), (0, 0), (31, 32), (8, 8)], [], [(((0, 0), 1851192626986356802442008000046409524956554626371924516682072064000000), .inr (0, (9, 0))), (((0, 480), 25), .inr (0, (9, 0)))], 0, 0, 15, [(0, .inr (3, (0, 480))), (1, .inr (0, (8, 0)))], [.inr (0, (0, 0)), .inr (3, (0, 480))]), [], [], [(0, 0), (0, 0), (0, 0), (0, 0), (0, 0), (0, 0), (0, 0), (0, 0), (8, 0), (0, 0)], 1)
noncomputable def rxoOB_2_0 : bx_HO := (([(0, 0), (0, 0), (0, 0), (0, 0), (0, 0), (0, 0), (0, 0), (0, 0), (31, 32), (0, 1), (0, 0), (0, 8)], [], [(((0, 0), 1851192626986356802442008000046409524956554626371924516682072064000000), .inr (0, (11, 0))), (((0, 480), 25), .inr (0, (11, 0))), (((0, 0), 1851192626986356800234234225391877833944518517379736727590010880000000), .inr (0, (10, 0))), (((0, 480), 14), .inr (0, (10, 0)))], 0, 0, 30, [(0, .inr (3, (0, 480))), (1, .inr (0, (8, 0)))], [.inr (0, (11, 0)), .inr (3, (0, 480))]), [(11, 0, 7)], [], [(0, 0), (0, 0), (0, 0), (0, 0), (0, 0), (0, 0), (0, 0), (0, 0), (8, 0), (11, 0)], 3)
noncomputable def rxeOB_2_0 : rx_End × List (Nat × Int × Int) := (([(0, 0), (0, 0), (0, 0), (0, 0), (0, 0), (0, 0), (0, 0), (0, 0), (31, 32), (0, 1), (1, 1)], [(3, (10, 0), (0, 0))], [(((0, 0), 1851192626986356800234234225391877833944518517379736727590010880000000), .inr (0, (10, 0))), (((0, 480), 14), .inr (0, (10, 0)))], none), [])
noncomputable def rxoOB_3_0 : bx_HO := (([(0, 0), (0, 0), (0, 0), (0, 0), (0, 0), (0, 0), (0, 0), (0, 0), (31, 32), (0, 7)], [], [(((0, 0), 1851192626986356802442008000046409524956554626371924516682072067000000), .inr (0, (9, 1))), (((0, 480), 25), .inr (0, (9, 1)))], 0, 0, 38, [(0, .inr (3, (0, 480))), (1, .inr (0, (8, 0)))], [.inr (0, (0, 0)), .inr (0, (8, 0)), .inr (3, (0, 480))]), [], [], [(0, 0), (0, 0), (0, 0), (0, 0), (0, 0), (0, 0), (0, 0), (0, 0), (8, 0), (8, 0)], 4)
noncomputable def rxeOB_5_0 : rx_End × List (Nat × Int × Int) := (([(0, 0), (0, 0), (0, 0), (0, 0), (0, 0), (0, 0), (0, 0), (0, 0), (31, 32), (31, 32)], [], [], none), [])
noncomputable def rxYOB : List bx_HE := [(rxzOB_0, [rxoOB_0_0, rxoOB_0_1], []), (rxzOB_1, [], []), (rxzOB_2, [rxoOB_2_0], [rxeOB_2_0]), (rxzOB_3, [rxoOB_3_0], []), (rxzOB_4, [], []), (rxzOB_5, [], [rxeOB_5_0])]
noncomputable def rxUOB (q : bx_HE) : Bool := Nat.beq (rx_zpc q.1) 15 || Nat.beq (rx_zpc q.1) 38
noncomputable def rxYBOB : bx_B := (rxV, rxNP, rxDmf, bx_mdH rxCOB.2.2.1)
set_option maxRecDepth 100000 in
theorem rxYcOB : bx_chkH rxYBOB rxM270 rxCOB rxYOB (rxUOB, fun cut z => rx_ex2 (rxCT rxYBOB rxCnE) cut 30000 rxCOB.2.2.2.1 270 z) = true := by decide +kernel
noncomputable def rxIOB (S0 : Nat → Int → Int) (ws : List Int) (i : Nat) : bx_SP := fun S r => match i with | 0 => rxIOB_0 S0 ws S (r 8) | 1 => rxIOB_1 S0 ws S (r 8) (r 9) | 2 => rxIOB_2 S0 ws S (r 8) (r 9) | 3 => rxIOB_3 S0 ws S (r 8) (r 9) | 4 => rxIOB_4 S0 ws S (r 8) (r 9) | 5 => rxIOB_5 S0 ws S (r 8) (r 9) | _ => False
noncomputable def rxmOB (S0 : Nat → Int → Int) (ws : List Int) (i : Nat) (S : Nat → Int → Int) (r : Nat → Int) : Nat := match i with | 0 => rxmOB_0 S0 ws S (r 8) | 1 => rxmOB_1 S0 ws S (r 8) (r 9) | 2 => rxmOB_2 S0 ws S (r 8) (r 9) | 3 => rxmOB_3 S0 ws S (r 8) (r 9) | 4 => rxmOB_4 S0 ws S (r 8) (r 9) | 5 => rxmOB_5 S0 ws S (r 8) (r 9) | _ => 0
noncomputable def rxPOB (S0 : Nat → Int → Int) (ws : List Int) : Prop := rxPt S0 ∧ S0 480 14 = 0 ∧ S0 480 11 ≠ 0 ∧ ∃ op : Int, ws = [480, op] ∧ (op = 32 ∨ rxNoSq S0)
noncomputable def rxPSOB (S0 : Nat → Int → Int) (ws : List Int) (S : Nat → Int → Int) (w : Option Int) : Prop := w = none ∧ ∃ op : Int, ws = [480, op] ∧ rxTk S ∧ rxPz S ∧ 0 ≤ S 480 24 ∧ S 480 18 + S 480 24 ≤ S 480 9 ∧ (S 480 14 = 0 → rxEf S0 S 0 0 ∧ (S0 480 9 < S 480 9 ∧ (op ≠ 32 → rxNoSq S0 → rxNoSq S)))
theorem rxkOB_1 {S0 : Nat → Int → Int} {ws : List Int} {S : Nat → Int → Int} {op is : Int} (hP : rxPOB S0 ws) (hin : bx_same rxL (bx_mdl rxCOB.2.2.1) S0 S) (I0 : bx_Inv rxL S) (hinv : rxIOB_1 S0 ws S op is) (l8 : 31 ≤ op) (u8 : op ≤ 32) (l9 : 0 ≤ is) (u9 : is ≤ 1) : rxPMU S [480, is] ∧ ∀ (S_p : Nat → Int → Int), rxPSMU S [480, is] S_p none → bx_Inv rxL S_p → bx_same rxL (bx_mdl rxCMU.2.2.1) S S_p → rxIOB_2 S0 ws S_p op is ∧ rxmOB_2 S0 ws S_p op is < rxmOB_1 S0 ws S op is := by
  obtain ⟨rfl, hw, h8⟩ := hinv
  obtain ⟨⟨p1, p2, p3, p4⟩, p5, p6, p7⟩ := hP
  refine ⟨p1, fun S_p hq I1 hsm => ⟨⟨hw, hq.2.1, rxSm_of hsm (by decide +kernel), fun g => ?_, fun g => ?_⟩, by unfold rxmOB_1 rxmOB_2; omega⟩⟩
  · obtain ⟨-, -, is_p, hw2, hc⟩ := hq
    have he : is = is_p := Option.some.inj (congrArg (fun l => l[1]?) hw2)
    have hs := rxSm_of hsm (by decide +kernel)
    have h25 := hs.2.2.1
    rcases hc with ⟨c1, c2, c3, c4⟩ | ⟨c1, c2, c3⟩
    · exact ⟨by rw [h25]; exact h8 (by omega), c4⟩
    · omega
  · obtain ⟨-, -, is_p, hw2, hc⟩ := hq
    rcases hc with ⟨c1, c2, c3, c4⟩ | ⟨c1, c2, c3, -⟩
    · omega
    · exact c3
theorem rxsOB_1 {X : (Nat → Int → Int) → Prop} {S0 : Nat → Int → Int} {ws : List Int} (hP : rxPOB S0 ws) : rx_obK X S0 rxCOB.2.2.1 rxCMU.2.2.1 (rxIOB S0 ws) (rxmOB S0 ws) 1 2 rxzOB_1 rxzOB_2 [.inr (3, (0, 480)), .inr (0, (9, 0))] none rxPMU rxPSMU := by
  intro S r hinv hXS I0 hin hs_ hf_
  have b_ := bx_bds_sat hs_
  have f_ := bx_fcl_ok hs_.1 hf_
  obtain ⟨⟨l8, u8⟩, ⟨l9, u9⟩, -⟩ := b_
  have g := rxkOB_1 hP hin I0 hinv l8 u8 l9 u9
  have ea : List.map (bx_num r) [.inr (3, (0, 480)), .inr (0, (9, 0))] = [480, (r 9)] := by
    simp only [List.map_cons, List.map_nil, bx_xv_ok hs_.1]
    rfl
  rw [ea]
  refine ⟨g.1, fun S_p w r_p hPS hX_p I1 hsm hr hw hs_p => ?_⟩
  have hw : w = none := hPS.1
  subst hw
  have g2 := g.2 S_p hPS I1 hsm
  show rxIOB_2 S0 ws S_p (r_p 8) (r_p 9) ∧ rxmOB_2 S0 ws S_p (r_p 8) (r_p 9) < _
  rw [hr 8 (by decide), hr 9 (by decide)]
  exact g2
theorem rxkOB_4 {S0 : Nat → Int → Int} {ws : List Int} {S : Nat → Int → Int} {op op2 : Int} (hP : rxPOB S0 ws) (hin : bx_same rxL (bx_mdl rxCOB.2.2.1) S0 S) (I0 : bx_Inv rxL S) (hinv : rxIOB_4 S0 ws S op op2) (l8 : 31 ≤ op) (u8 : op ≤ 32) (l9 : 31 ≤ op2) (u9 : op2 ≤ 32) : rxPPU S [480, op2, 0] ∧ ∀ (S_p : Nat → Int → Int), rxPSPU S [480, op2, 0] S_p none → bx_Inv rxL S_p → bx_same rxL (bx_mdl rxCPU.2.2.1) S S_p → rxIOB_5 S0 ws S_p op op2 ∧ rxmOB_5 S0 ws S_p op op2 < rxmOB_4 S0 ws S op op2 := by
  obtain ⟨rfl, hw, S1, rfl, h1, h2, h3, h4⟩ := hinv
  obtain ⟨⟨p1, p2, p3, p4⟩, p5, p6, op_p, hw2, p7⟩ := hP
  have he : op2 = op_p := Option.some.inj (congrArg (fun l => l[1]?) (hw.symm.trans hw2))
  subst he
  have b24 : 0 ≤ S1 480 24 ∧ S1 480 24 ≤ 400 := by have := rxBox24 I0; simpa [bx_up] using this
  have b18 : 0 ≤ S1 480 18 ∧ S1 480 18 ≤ 400 := by have := rxBox18 I0; simpa [bx_up] using this
  have hz := h2.pz p2 (by have := h2.2.1; omega)
  have e24 : bx_up S1 480 25 (S1 480 25 + 1) 480 24 = S1 480 24 := by simp [bx_up]
  have e8 : bx_up S1 480 25 (S1 480 25 + 1) 480 8 = S1 480 8 := by simp [bx_up]
  have b8 := rxBox8 I0
  have tk := h1.2.1
  have tk2 := h1.2.2.1
  have tk0 := p1.2.2.2.1 p6
  have k18 := h2.1
  have k24 := h2.2.1
  refine ⟨by show bx_up S1 480 25 (S1 480 25 + 1) 480 24 ≤ 399; omega, fun S_p hq I1 hsm => ?_⟩
  obtain ⟨-, o_p, a_p, hw3, rfl⟩ := hq
  have ho : op2 = o_p := Option.some.inj (congrArg (fun l => l[1]?) hw3)
  have ha : (0 : Int) = a_p := Option.some.inj (congrArg (fun l => l[2]?) hw3)
  subst ho
  subst ha
  have f9 : rxPuE (bx_up S1 480 25 (S1 480 25 + 1)) op2 0 480 9 = S1 480 9 := by unfold rxPuE; simp [bx_up]
  have f18 : rxPuE (bx_up S1 480 25 (S1 480 25 + 1)) op2 0 480 18 = S1 480 18 := by unfold rxPuE; simp [bx_up]
  have f24 : rxPuE (bx_up S1 480 25 (S1 480 25 + 1)) op2 0 480 24 = S1 480 24 + 1 := by unfold rxPuE; simp [bx_up]
  have hTk : rxTk (rxPuE (bx_up S1 480 25 (S1 480 25 + 1)) op2 0) := by
    unfold rxTk rxPuE
    simp [bx_up]
    unfold rxTk at h1
    omega
  have hsq : op2 = 32 ∨ rxNoSq S1 := p7.imp id fun q => q.sm h2 (by omega)
  have hz2 := rxPuB_pz (op := op2) hz (by omega) (by omega) hsq
  refine ⟨⟨hTk, hz2, by show 0 ≤ rxPuE (bx_up S1 480 25 (S1 480 25 + 1)) op2 0 480 24; omega, by show rxPuE (bx_up S1 480 25 (S1 480 25 + 1)) op2 0 480 18 + rxPuE (bx_up S1 480 25 (S1 480 25 + 1)) op2 0 480 24 ≤ rxPuE (bx_up S1 480 25 (S1 480 25 + 1)) op2 0 480 9; omega, fun _ => ⟨(h2.ef (by omega) (by omega) 0).tr (rxPuB_ef (by omega) (by omega)), by show S0 480 9 < rxPuE (bx_up S1 480 25 (S1 480 25 + 1)) op2 0 480 9; omega, fun q1 q2 => ?_⟩, hw⟩, by unfold rxmOB_4 rxmOB_5; omega⟩
  refine rxPuE_sq (S := bx_up S1 480 25 (S1 480 25 + 1)) (fun i a b => ?_) q1
  rw [show bx_up S1 480 25 (S1 480 25 + 1) 489 i = S1 489 i by simp [bx_up]]
  rw [e24] at b
  exact q2.sm h2 (by omega) i a b
theorem rxsOB_4 {X : (Nat → Int → Int) → Prop} {S0 : Nat → Int → Int} {ws : List Int} (hP : rxPOB S0 ws) : rx_obK X S0 rxCOB.2.2.1 rxCPU.2.2.1 (rxIOB S0 ws) (rxmOB S0 ws) 4 5 rxzOB_4 rxzOB_5 [.inr (3, (0, 480)), .inr (0, (9, 0)), .inr (0, (0, 0))] none rxPPU rxPSPU := by
  intro S r hinv hXS I0 hin hs_ hf_
  have b_ := bx_bds_sat hs_
  have f_ := bx_fcl_ok hs_.1 hf_
  obtain ⟨⟨l8, u8⟩, ⟨l9, u9⟩, -⟩ := b_
  have g := rxkOB_4 hP hin I0 hinv l8 u8 l9 u9
  have ea : List.map (bx_num r) [.inr (3, (0, 480)), .inr (0, (9, 0)), .inr (0, (0, 0))] = [480, (r 9), 0] := by
    simp only [List.map_cons, List.map_nil, bx_xv_ok hs_.1]
    rfl
  rw [ea]
  refine ⟨g.1, fun S_p w r_p hPS hX_p I1 hsm hr hw hs_p => ?_⟩
  have hw : w = none := hPS.1
  subst hw
  have g2 := g.2 S_p hPS I1 hsm
  show rxIOB_5 S0 ws S_p (r_p 8) (r_p 9) ∧ rxmOB_5 S0 ws S_p (r_p 8) (r_p 9) < _
  rw [hr 8 (by decide), hr 9 (by decide)]
  exact g2
theorem rxcOB_0_0 {S0 : Nat → Int → Int} {ws : List Int} {S : Nat → Int → Int} {op x9 : Int} (hP : rxPOB S0 ws) (hin : bx_same rxL (bx_mdl rxCOB.2.2.1) S0 S) (I0 : bx_Inv rxL S) (hinv : rxIOB_0 S0 ws S op) (l8 : 31 ≤ op) (u8 : op ≤ 32) (l9 : 0 ≤ x9) (u9 : x9 ≤ 7) (e0 : S 480 25 = x9) : (True) ∧ (True) ∧ rxIOB_1 S0 ws S op 1 ∧ rxmOB_1 S0 ws S op 1 < rxmOB_0 S0 ws S op := by
  obtain ⟨rfl, hw⟩ := hinv
  exact ⟨trivial, trivial, ⟨rfl, hw, fun q => by omega⟩, by unfold rxmOB_0 rxmOB_1; omega⟩
theorem rxgOB_0_0 {X : (Nat → Int → Int) → Prop} {S0 : Nat → Int → Int} {ws : List Int} (hP : rxPOB S0 ws) : bx_obC rxL X S0 rxCOB.2.2.1 (rxIOB S0 ws) (rxmOB S0 ws) 0 rxzOB_0 rxoOB_0_0 := by
  intro S S_p r r_p hinv hX hin hsm_ hseg
  obtain ⟨I0, I1, h0_, hr_, b_, f_, d_⟩ := bx_cl (evs := [(0, (0, 480), (0, 25), .inr (0, (9, 0)))]) (fvs := []) hseg (by decide +kernel) (by decide +kernel)
  have hinv : rxIOB_0 S0 ws S (r 8) := hinv
  rw [← hr_ 8 (by decide)] at hinv
  obtain ⟨⟨l8, u8⟩, ⟨l9, u9⟩, -⟩ := b_
  obtain ⟨e0, w_⟩ := d_
  subst w_
  have g := rxcOB_0_0 hP hin I0 hinv l8 u8 l9 u9 e0
  refine ⟨bx_narP_ok (l := []) g.1, bx_nfP_ok h0_ (fvs := []) (by decide +kernel) g.2.1, ?_, ?_⟩
  · show rxIOB_1 S0 ws S_p (bx_val [(0, 0), (0, 0), (0, 0), (0, 0), (0, 0), (0, 0), (0, 0), (0, 0), (8, 0), (0, 1)] r_p 8) (bx_val [(0, 0), (0, 0), (0, 0), (0, 0), (0, 0), (0, 0), (0, 0), (0, 0), (8, 0), (0, 1)] r_p 9)
    rw [bx_val_x (n := 8) (e := (8, 0)) h0_ rfl, bx_val_x (n := 9) (e := (0, 1)) h0_ rfl]
    exact g.2.2.1
  · show rxmOB_1 S0 ws S_p (bx_val [(0, 0), (0, 0), (0, 0), (0, 0), (0, 0), (0, 0), (0, 0), (0, 0), (8, 0), (0, 1)] r_p 8) (bx_val [(0, 0), (0, 0), (0, 0), (0, 0), (0, 0), (0, 0), (0, 0), (0, 0), (8, 0), (0, 1)] r_p 9) < rxmOB_0 S0 ws S_p (r 8)
    rw [bx_val_x (n := 8) (e := (8, 0)) h0_ rfl, bx_val_x (n := 9) (e := (0, 1)) h0_ rfl, ← hr_ 8 (by decide)]
    exact g.2.2.2
theorem rxcOB_0_1 {S0 : Nat → Int → Int} {ws : List Int} {S : Nat → Int → Int} {op x9 : Int} (hP : rxPOB S0 ws) (hin : bx_same rxL (bx_mdl rxCOB.2.2.1) S0 S) (I0 : bx_Inv rxL S) (hinv : rxIOB_0 S0 ws S op) (l8 : 31 ≤ op) (u8 : op ≤ 32) (l9 : 8 ≤ x9) (u9 : x9 ≤ 8) (e0 : S 480 25 = x9) : (True) ∧ (True) ∧ rxIOB_1 S0 ws S op 0 ∧ rxmOB_1 S0 ws S op 0 < rxmOB_0 S0 ws S op := by
  obtain ⟨rfl, hw⟩ := hinv
  exact ⟨trivial, trivial, ⟨rfl, hw, fun q => by omega⟩, by unfold rxmOB_0 rxmOB_1; omega⟩
theorem rxgOB_0_1 {X : (Nat → Int → Int) → Prop} {S0 : Nat → Int → Int} {ws : List Int} (hP : rxPOB S0 ws) : bx_obC rxL X S0 rxCOB.2.2.1 (rxIOB S0 ws) (rxmOB S0 ws) 0 rxzOB_0 rxoOB_0_1 := by
  intro S S_p r r_p hinv hX hin hsm_ hseg
  obtain ⟨I0, I1, h0_, hr_, b_, f_, d_⟩ := bx_cl (evs := [(0, (0, 480), (0, 25), .inr (0, (9, 0)))]) (fvs := []) hseg (by decide +kernel) (by decide +kernel)
  have hinv : rxIOB_0 S0 ws S (r 8) := hinv
  rw [← hr_ 8 (by decide)] at hinv
  obtain ⟨⟨l8, u8⟩, ⟨l9, u9⟩, -⟩ := b_
  obtain ⟨e0, w_⟩ := d_
  subst w_
  have g := rxcOB_0_1 hP hin I0 hinv l8 u8 l9 u9 e0
  refine ⟨bx_narP_ok (l := []) g.1, bx_nfP_ok h0_ (fvs := []) (by decide +kernel) g.2.1, ?_, ?_⟩
  · show rxIOB_1 S0 ws S_p (bx_val [(0, 0), (0, 0), (0, 0), (0, 0), (0, 0), (0, 0), (0, 0), (0, 0), (8, 0), (0, 0)] r_p 8) (bx_val [(0, 0), (0, 0), (0, 0), (0, 0), (0, 0), (0, 0), (0, 0), (0, 0), (8, 0), (0, 0)] r_p 9)
    rw [bx_val_x (n := 8) (e := (8, 0)) h0_ rfl, bx_val_x (n := 9) (e := (0, 0)) h0_ rfl]
    exact g.2.2.1
  · show rxmOB_1 S0 ws S_p (bx_val [(0, 0), (0, 0), (0, 0), (0, 0), (0, 0), (0, 0), (0, 0), (0, 0), (8, 0), (0, 0)] r_p 8) (bx_val [(0, 0), (0, 0), (0, 0), (0, 0), (0, 0), (0, 0), (0, 0), (0, 0), (8, 0), (0, 0)] r_p 9) < rxmOB_0 S0 ws S_p (r 8)
    rw [bx_val_x (n := 8) (e := (8, 0)) h0_ rfl, bx_val_x (n := 9) (e := (0, 0)) h0_ rfl, ← hr_ 8 (by decide)]
    exact g.2.2.2
theorem rxcOB_2_0 {S0 : Nat → Int → Int} {ws : List Int} {S : Nat → Int → Int} {op is x10 x11 : Int} (hP : rxPOB S0 ws) (hin : bx_same rxL (bx_mdl rxCOB.2.2.1) S0 S) (I0 : bx_Inv rxL S) (hinv : rxIOB_2 S0 ws S op is) (l8 : 31 ≤ op) (u8 : op ≤ 32) (l9 : 0 ≤ is) (u9 : is ≤ 1) (l10 : 0 ≤ x10) (u10 : x10 ≤ 0) (l11 : 0 ≤ x11) (u11 : x11 ≤ 8) (e1 : S 480 14 = x10) (e0 : S 480 25 = x11) : ((0 ≤ x11 ∧ x11 ≤ 7) ∧ True) ∧ (True) ∧ rxIOB_3 S0 ws S op x11 ∧ rxmOB_3 S0 ws S op x11 < rxmOB_2 S0 ws S op is := by
  obtain ⟨hw, h1, h2, h3, h4⟩ := hinv
  have h5 := h3 (by omega)
  exact ⟨⟨by omega, trivial⟩, trivial, ⟨hw, by omega, h1, h2, by omega, h5.2⟩, by unfold rxmOB_2 rxmOB_3; omega⟩
theorem rxgOB_2_0 {X : (Nat → Int → Int) → Prop} {S0 : Nat → Int → Int} {ws : List Int} (hP : rxPOB S0 ws) : bx_obC rxL X S0 rxCOB.2.2.1 (rxIOB S0 ws) (rxmOB S0 ws) 2 rxzOB_2 rxoOB_2_0 := by
  intro S S_p r r_p hinv hX hin hsm_ hseg
  obtain ⟨I0, I1, h0_, hr_, b_, f_, d_⟩ := bx_cl (evs := [(0, (0, 480), (0, 25), .inr (0, (11, 0))), (0, (0, 480), (0, 14), .inr (0, (10, 0)))]) (fvs := []) hseg (by decide +kernel) (by decide +kernel)
  have hinv : rxIOB_2 S0 ws S (r 8) (r 9) := hinv
  rw [← hr_ 8 (by decide), ← hr_ 9 (by decide)] at hinv
  obtain ⟨⟨l8, u8⟩, ⟨l9, u9⟩, ⟨l10, u10⟩, ⟨l11, u11⟩, -⟩ := b_
  obtain ⟨e0, ⟨e1, w_⟩⟩ := d_
  subst w_
  have g := rxcOB_2_0 hP hin I0 hinv l8 u8 l9 u9 l10 u10 l11 u11 e1 e0
  refine ⟨bx_narP_ok (l := [(11, 0, 7)]) g.1, bx_nfP_ok h0_ (fvs := []) (by decide +kernel) g.2.1, ?_, ?_⟩
  · show rxIOB_3 S0 ws S_p (bx_val [(0, 0), (0, 0), (0, 0), (0, 0), (0, 0), (0, 0), (0, 0), (0, 0), (8, 0), (11, 0)] r_p 8) (bx_val [(0, 0), (0, 0), (0, 0), (0, 0), (0, 0), (0, 0), (0, 0), (0, 0), (8, 0), (11, 0)] r_p 9)
    rw [bx_val_x (n := 8) (e := (8, 0)) h0_ rfl, bx_val_x (n := 9) (e := (11, 0)) h0_ rfl]
    exact g.2.2.1
  · show rxmOB_3 S0 ws S_p (bx_val [(0, 0), (0, 0), (0, 0), (0, 0), (0, 0), (0, 0), (0, 0), (0, 0), (8, 0), (11, 0)] r_p 8) (bx_val [(0, 0), (0, 0), (0, 0), (0, 0), (0, 0), (0, 0), (0, 0), (0, 0), (8, 0), (11, 0)] r_p 9) < rxmOB_2 S0 ws S_p (r 8) (r 9)
    rw [bx_val_x (n := 8) (e := (8, 0)) h0_ rfl, bx_val_x (n := 9) (e := (11, 0)) h0_ rfl, ← hr_ 8 (by decide), ← hr_ 9 (by decide)]
    exact g.2.2.2
theorem rxdOB_2_0 {S0 : Nat → Int → Int} {ws : List Int} {S : Nat → Int → Int} {op is x10 : Int} (hP : rxPOB S0 ws) (hin : bx_same rxL (bx_mdl rxCOB.2.2.1) S0 S) (hin2 : bx_same rxL (bx_mdl rxCOB.2.2.1) S S) (I0 : bx_Inv rxL S) (I1 : bx_Inv rxL S) (hinv : rxIOB_2 S0 ws S op is) (l8 : 31 ≤ op) (u8 : op ≤ 32) (l9 : 0 ≤ is) (u9 : is ≤ 1) (l10 : 1 ≤ x10) (u10 : x10 ≤ 1) (f0 : x10 ≠ 0) (e0 : S 480 14 = x10) : (True) ∧ rxPSOB S0 ws S none := by
  obtain ⟨hw, h1, h2, h3, h4⟩ := hinv
  obtain ⟨⟨p1, p2, p3, p4⟩, p5, p6, -⟩ := hP
  have k18 := h2.1
  have k24 := h2.2.1
  have b24 := rxBox24 I0
  have g := h4 (by omega)
  exact ⟨trivial, rfl, op, hw, h1, h2.pz p2 (by omega), by omega, by omega, fun q => by omega⟩
theorem rxfOB_2_0 {X : (Nat → Int → Int) → Prop} {S0 : Nat → Int → Int} {ws : List Int} (hP : rxPOB S0 ws) : bx_obE rxL X S0 rxCOB.2.2.1 (rxIOB S0 ws) (rxPSOB S0 ws) 2 rxzOB_2 rxeOB_2_0 := by
  intro S S_p r r_p hinv hX hin hsm_ hseg
  obtain ⟨I0, I1, h0_, hr_, b_, f_, d_⟩ := bx_cl (evs := [(0, (0, 480), (0, 14), .inr (0, (10, 0)))]) (fvs := [(3, (10, 0), (0, 0), (0, 0))]) hseg (by decide +kernel) (by decide +kernel)
  have hinv : rxIOB_2 S0 ws S (r 8) (r 9) := hinv
  rw [← hr_ 8 (by decide), ← hr_ 9 (by decide)] at hinv
  obtain ⟨⟨l8, u8⟩, ⟨l9, u9⟩, ⟨l10, u10⟩, -⟩ := b_
  obtain ⟨f0, -⟩ := f_
  obtain ⟨e0, w_⟩ := d_
  subst w_
  have g := rxdOB_2_0 hP hin hsm_ I0 I1 hinv l8 u8 l9 u9 l10 u10 f0 e0
  refine ⟨bx_narP_ok (l := []) g.1, ?_⟩
  exact g.2
theorem rxcOB_3_0 {S0 : Nat → Int → Int} {ws : List Int} {S : Nat → Int → Int} {op q : Int} (hP : rxPOB S0 ws) (hin : bx_same rxL (bx_mdl rxCOB.2.2.1) S0 S) (I0 : bx_Inv rxL S) (hinv : rxIOB_3 S0 ws S op q) (l8 : 31 ≤ op) (u8 : op ≤ 32) (l9 : 0 ≤ q) (u9 : q ≤ 7) : (True) ∧ (True) ∧ rxIOB_4 S0 ws (bx_up S 480 25 (q + 1)) op op ∧ rxmOB_4 S0 ws (bx_up S 480 25 (q + 1)) op op < rxmOB_3 S0 ws S op q := by
  obtain ⟨hw, hq, h1, h2, h3, h4⟩ := hinv
  exact ⟨trivial, trivial, ⟨rfl, hw, S, by rw [hq], h1, h2, h3, h4⟩, by unfold rxmOB_3 rxmOB_4; omega⟩
theorem rxgOB_3_0 {X : (Nat → Int → Int) → Prop} {S0 : Nat → Int → Int} {ws : List Int} (hP : rxPOB S0 ws) : bx_obC rxL X S0 rxCOB.2.2.1 (rxIOB S0 ws) (rxmOB S0 ws) 3 rxzOB_3 rxoOB_3_0 := by
  intro S S_p r r_p hinv hX hin hsm_ hseg
  obtain ⟨I0, I1, h0_, hr_, b_, f_, d_⟩ := bx_cl (evs := [(1, (0, 480), (0, 25), .inr (0, (9, 1)))]) (fvs := []) hseg (by decide +kernel) (by decide +kernel)
  have hinv : rxIOB_3 S0 ws S (r 8) (r 9) := hinv
  rw [← hr_ 8 (by decide), ← hr_ 9 (by decide)] at hinv
  obtain ⟨⟨l8, u8⟩, ⟨l9, u9⟩, -⟩ := b_
  obtain ⟨T0, w_, w0⟩ := d_
  subst w0
  subst w_
  have g := rxcOB_3_0 hP hin I0 hinv l8 u8 l9 u9
  refine ⟨bx_narP_ok (l := []) g.1, bx_nfP_ok h0_ (fvs := []) (by decide +kernel) g.2.1, ?_, ?_⟩
  · show rxIOB_4 S0 ws (bx_up T0 480 (25) (r_p 9 + 1)) (bx_val [(0, 0), (0, 0), (0, 0), (0, 0), (0, 0), (0, 0), (0, 0), (0, 0), (8, 0), (8, 0)] r_p 8) (bx_val [(0, 0), (0, 0), (0, 0), (0, 0), (0, 0), (0, 0), (0, 0), (0, 0), (8, 0), (8, 0)] r_p 9)
    rw [bx_val_x (n := 8) (e := (8, 0)) h0_ rfl, bx_val_x (n := 9) (e := (8, 0)) h0_ rfl]
    exact g.2.2.1
  · show rxmOB_4 S0 ws (bx_up T0 480 (25) (r_p 9 + 1)) (bx_val [(0, 0), (0, 0), (0, 0), (0, 0), (0, 0), (0, 0), (0, 0), (0, 0), (8, 0), (8, 0)] r_p 8) (bx_val [(0, 0), (0, 0), (0, 0), (0, 0), (0, 0), (0, 0), (0, 0), (0, 0), (8, 0), (8, 0)] r_p 9) < rxmOB_3 S0 ws T0 (r 8) (r 9)
    rw [bx_val_x (n := 8) (e := (8, 0)) h0_ rfl, bx_val_x (n := 9) (e := (8, 0)) h0_ rfl, ← hr_ 8 (by decide), ← hr_ 9 (by decide)]
    exact g.2.2.2
theorem rxdOB_5_0 {S0 : Nat → Int → Int} {ws : List Int} {S : Nat → Int → Int} {op op2 : Int} (hP : rxPOB S0 ws) (hin : bx_same rxL (bx_mdl rxCOB.2.2.1) S0 S) (hin2 : bx_same rxL (bx_mdl rxCOB.2.2.1) S S) (I0 : bx_Inv rxL S) (I1 : bx_Inv rxL S) (hinv : rxIOB_5 S0 ws S op op2) (l8 : 31 ≤ op) (u8 : op ≤ 32) (l9 : 31 ≤ op2) (u9 : op2 ≤ 32) : (True) ∧ rxPSOB S0 ws S none := by
  obtain ⟨h1, h2, h3, h4, h5, hw⟩ := hinv
  exact ⟨trivial, rfl, op, hw, h1, h2, h3, h4, h5⟩
theorem rxfOB_5_0 {X : (Nat → Int → Int) → Prop} {S0 : Nat → Int → Int} {ws : List Int} (hP : rxPOB S0 ws) : bx_obE rxL X S0 rxCOB.2.2.1 (rxIOB S0 ws) (rxPSOB S0 ws) 5 rxzOB_5 rxeOB_5_0 := by
  intro S S_p r r_p hinv hX hin hsm_ hseg
  obtain ⟨I0, I1, h0_, hr_, b_, f_, d_⟩ := bx_cl (evs := []) (fvs := []) hseg (by decide +kernel) (by decide +kernel)
  have hinv : rxIOB_5 S0 ws S (r 8) (r 9) := hinv
  rw [← hr_ 8 (by decide), ← hr_ 9 (by decide)] at hinv
  obtain ⟨⟨l8, u8⟩, ⟨l9, u9⟩, -⟩ := b_
  have w_ := d_
  subst w_
  have g := rxdOB_5_0 hP hin hsm_ I0 I1 hinv l8 u8 l9 u9
  refine ⟨bx_narP_ok (l := []) g.1, ?_⟩
  exact g.2
theorem rxgCOB {X : (Nat → Int → Int) → Prop} {S0 : Nat → Int → Int} {ws : List Int} (hP : rxPOB S0 ws) : bx_allI (fun i q => rxUOB q = true ∨ bx_allP (fun o => bx_obC rxL X S0 rxCOB.2.2.1 (rxIOB S0 ws) (rxmOB S0 ws) i q.1 o) q.2.1) 0 rxYOB := ⟨Or.inr ⟨rxgOB_0_0 hP, rxgOB_0_1 hP, trivial⟩, Or.inl rfl, Or.inr ⟨rxgOB_2_0 hP, trivial⟩, Or.inr ⟨rxgOB_3_0 hP, trivial⟩, Or.inl rfl, Or.inr trivial, trivial⟩
theorem rxgEOB {X : (Nat → Int → Int) → Prop} {S0 : Nat → Int → Int} {ws : List Int} (hP : rxPOB S0 ws) : bx_allI (fun i q => rxUOB q = true ∨ bx_allP (fun E => bx_obE rxL X S0 rxCOB.2.2.1 (rxIOB S0 ws) (rxPSOB S0 ws) i q.1 E) q.2.2) 0 rxYOB := ⟨Or.inr trivial, Or.inl rfl, Or.inr ⟨rxfOB_2_0 hP, trivial⟩, Or.inr trivial, Or.inl rfl, Or.inr ⟨rxfOB_5_0 hP, trivial⟩, trivial⟩
theorem rxuOB {PX : State → Prop} {Dg : va_G} {A : Nat → Prop} {ad xa : Nat → Nat} {l : Launch} {X : (Nat → Int → Int) → Prop} (hPX : rx_PXOK rxNW A PX) (hX : ∀ S S1 : Nat → Int → Int, X S → bx_same rxL (bx_mdl rxCOB.2.2.1) S S1 → X S1) (hQMU : bx_ConP rxG rxNW rxAO PX Dg rxL X vwCl A ad l rxM265 rxCMU rxPMU rxPSMU) (hQPU : bx_ConP rxG rxNW rxAO PX Dg rxL X vwCl A ad l rxM268 rxCPU rxPPU rxPSPU) {S0 : Nat → Int → Int} {ws : List Int} (hP : rxPOB S0 ws) : ∀ (i : Nat) (q : bx_HE), rxYOB[i]? = some q → rxUOB q = true → ∀ {p : Program} {e : Env} {R : Room} {s : State} {m : MethodId} {args : Array Value} {below : List Frame} {meth : Method} {c : Code} {Q : State → Prop} {H0 : Heap}, rx_Fr rxG rxNW rxAO PX p s m args meth c rxM270 → (∀ q, H0.size ≤ q → A q) → H0 = s.heap → rxM270.2.2.2.2.2.2.1 ≤ R.cells → rxM270.2.2.2.2.2.2.2 ≤ R.slots → rxCOB.2.2.2.1 ≤ R.frames → rxCOB.2.2.2.1 * 40 ≤ R.locals → bx_Step p l e R s m args below meth c Q Dg rxL X vwCl A xa H0 ad rxM270 rxYOB (rxIOB S0 ws) (rxmOB S0 ws) S0 rxCOB.2.2.1 i q := by
  intro i q hq hus p e R s m args below meth c Q H0 hF hA hH0 hmc hms hd hdl
  match i, hq with
  | 0, hq =>
    cases hq
    exact absurd (show false = true from hus) Bool.false_ne_true
  | 1, hq =>
    cases hq
    exact rx_stepC (ins := .invokevirtual 284) (len := 3) (i_p := 2) (M_p := rxM265) (d := rxCOB.2.2.2.1) (as := [.inr (3, (0, 480)), .inr (0, (9, 0))]) (t := []) (ct := rxCMU) hPX hF rfl hA hH0 hmc hms hd hdl (by decide +kernel) rfl rfl (by decide +kernel) (by decide +kernel) hQMU (by decide +kernel) rfl (Or.inl ⟨rfl, rfl, rfl⟩) (rxsOB_1 hP)
  | 2, hq =>
    cases hq
    exact absurd (show false = true from hus) Bool.false_ne_true
  | 3, hq =>
    cases hq
    exact absurd (show false = true from hus) Bool.false_ne_true
  | 4, hq =>
    cases hq
    exact rx_stepC (ins := .invokevirtual 314) (len := 3) (i_p := 5) (M_p := rxM268) (d := rxCOB.2.2.2.1) (as := [.inr (3, (0, 480)), .inr (0, (9, 0)), .inr (0, (0, 0))]) (t := []) (ct := rxCPU) hPX hF rfl hA hH0 hmc hms hd hdl (by decide +kernel) rfl rfl (by decide +kernel) (by decide +kernel) hQPU (by decide +kernel) rfl (Or.inl ⟨rfl, rfl, rfl⟩) (rxsOB_4 hP)
  | 5, hq =>
    cases hq
    exact absurd (show false = true from hus) Bool.false_ne_true
  | n + 6, hq => cases hq
theorem rxQOB {PX : State → Prop} {Dg : va_G} {A : Nat → Prop} {ad xa : Nat → Nat} {l : Launch} {X : (Nat → Int → Int) → Prop} (hPX : rx_PXOK rxNW A PX) (hsl : ∀ s : State, PX s → ∀ o idx n : Nat, rxSl o idx = some n → ∃ tx : String, vk_R (rxNm o) idx tx (ad n) s)
    (hX : ∀ S S_p : Nat → Int → Int, X S → bx_same rxL (bx_mdl rxCOB.2.2.1) S S_p → X S_p)
    (ih : ∀ (j2 : Nat) (ct2 : bx_Ct) (M2 : rx_Mt), ct2 ∈ rxCnE j2 → ct2.2.2.2.1 + 1 ≤ rxCOB.2.2.2.1 → rxT.2.2.2.2.2 j2 = some M2 → bx_Con rxG rxNW rxAO PX Dg rxL X vwCl A ad l M2 ct2) (hQMU : bx_ConP rxG rxNW rxAO PX Dg rxL X vwCl A ad l rxM265 rxCMU rxPMU rxPSMU) (hQPU : bx_ConP rxG rxNW rxAO PX Dg rxL X vwCl A ad l rxM268 rxCPU rxPPU rxPSPU) : bx_ConP rxG rxNW rxAO PX Dg rxL X vwCl A ad l rxM270 rxCOB rxPOB rxPSOB :=
  rxQof (xa := xa) (Cn := rxCnE) (f := 30000) (j := 270) (tab := rxYOB) (us := rxUOB) hPX hsl hX ih rfl rxYcOB rxIOB rxmOB
    (fun S0 ws r I0 I ht0 ht as he he1 hX0 hI0 hP hs ha => by
      have e := he.symm.trans (show bx_ent0 rxNP rxCOB.1 bx_I0 [] = some ([(0, 0), (0, 0), (0, 0), (0, 0), (0, 0), (0, 0), (0, 0), (0, 0), (31, 32)], [], [.inr (3, (0, 480)), .inr (0, (8, 0))]) from rfl)
      cases e
      subst ha
      have h0 : r 0 = 0 := hs.1
      show rxIOB_0 S0 _ S0 (r 8)
      refine ⟨rfl, ?_⟩
      simp only [List.map_cons, List.map_nil, bx_xv_ok h0]
      rfl)
    (fun S0 ws hP => rxuOB (xa := xa) hPX hX hQMU hQPU hP) (fun S0 ws hP => rxgCOB hP) (fun S0 ws hP => rxgEOB hP)
end
section
noncomputable def rxCLF : bx_Ct := ([(3, (1, 480, 0)), (0, (0, 0, 1)), (0, (0, 0, 8)), (0, (0, 0, 1000))], none, [(12, 9), (12, 10), (12, 11), (12, 12), (12, 13), (12, 14), (12, 18), (12, 21), (1068, 0), (1069, 0)], 3, [])
noncomputable def rxILF_0 (S0 : Nat → Int → Int) (ws : List Int) (S : Nat → Int → Int) (is op arg : Int) : Prop := S = S0 ∧ ws = [480, is, op, arg]
noncomputable def rxmLF_0 (S0 : Nat → Int → Int) (ws : List Int) (S : Nat → Int → Int) (is op arg : Int) : Nat := 100
noncomputable def rxzLF_0 : rx_Z := ([(0, 0), (0, 0), (0, 0), (0, 0), (0, 0), (0, 0), (0, 0), (0, 0), (0, 1), (0, 8), (0, 1000)], [], [], 0, 0, 0, [(0, .inr (3, (0, 480))), (1, .inr (0, (8, 0))), (2, .inr (0, (9, 0))), (3, .inr (0, (10, 0)))], [])
noncomputable def rxILF_1 (S0 : Nat → Int → Int) (ws : List Int) (S : Nat → Int → Int) (op arg is2 : Int) : Prop := S = S0 ∧ (is2 = 1 → S 480 21 < 50 ∧ S 480 11 ≠ 0)
noncomputable def rxmLF_1 (S0 : Nat → Int → Int) (ws : List Int) (S : Nat → Int → Int) (op arg is2 : Int) : Nat := 90
noncomputable def rxzLF_1 : rx_Z := ([(0, 0), (0, 0), (0, 0), (0, 0), (0, 0), (0, 0), (0, 0), (0, 0), (0, 8), (0, 1000), (0, 1)], [], [], 0, 0, 19, [(0, .inr (3, (0, 480))), (2, .inr (0, (8, 0))), (3, .inr (0, (9, 0)))], [.inr (0, (10, 0)), .inr (3, (0, 480))])
noncomputable def rxILF_2 (S0 : Nat → Int → Int) (ws : List Int) (S : Nat → Int → Int) (op arg is2 : Int) : Prop := rxTk S ∧ rxSm S0 S ∧ (S 480 14 = 0 → S 480 21 < 50 ∧ S0 480 11 ≠ 0 ∧ S0 480 10 ≤ S 480 9) ∧ (S 480 14 ≠ 0 → S 480 9 = S0 480 9)
noncomputable def rxmLF_2 (S0 : Nat → Int → Int) (ws : List Int) (S : Nat → Int → Int) (op arg is2 : Int) : Nat := 80
noncomputable def rxzLF_2 : rx_Z := ([(0, 0), (0, 0), (0, 0), (0, 0), (0, 0), (0, 0), (0, 0), (0, 0), (0, 8), (0, 1000), (0, 1)], [], [], 0, 0, 22, [(0, .inr (3, (0, 480))), (2, .inr (0, (8, 0))), (3, .inr (0, (9, 0)))], [])
noncomputable def rxILF_3 (S0 : Nat → Int → Int) (ws : List Int) (S : Nat → Int → Int) (op arg op2 arg2 : Int) : Prop := op2 = op ∧ rxTk S ∧ rxSm S0 S ∧ S 480 14 = 0 ∧ S 480 21 < 50 ∧ S0 480 11 ≠ 0 ∧ S0 480 10 ≤ S 480 9
noncomputable def rxmLF_3 (S0 : Nat → Int → Int) (ws : List Int) (S : Nat → Int → Int) (op arg op2 arg2 : Int) : Nat := 70
noncomputable def rxzLF_3 : rx_Z := ([(0, 0), (0, 0), (0, 0), (0, 0), (0, 0), (0, 0), (0, 0), (0, 0), (0, 8), (0, 1000), (0, 8), (0, 1000)], [], [], 0, 0, 32, [(0, .inr (3, (0, 480))), (2, .inr (0, (8, 0))), (3, .inr (0, (9, 0)))], [.inr (0, (11, 0)), .inr (0, (10, 0)), .inr (3, (0, 480))])
noncomputable def rxILF_4 (S0 : Nat → Int → Int) (ws : List Int) (S : Nat → Int → Int) (op arg op2 arg2 : Int) : Prop := S 480 21 < 50 ∧ rxTk S ∧ rxPz S ∧ 0 ≤ S 480 24 ∧ S 480 18 + S 480 24 ≤ S 480 9 ∧ (S 480 14 = 0 → rxEf S0 S 0 1 ∧ S0 480 9 < S 480 9)
noncomputable def rxmLF_4 (S0 : Nat → Int → Int) (ws : List Int) (S : Nat → Int → Int) (op arg op2 arg2 : Int) : Nat := 60
noncomputable def rxzLF_4 : rx_Z := ([(0, 0), (0, 0), (0, 0), (0, 0), (0, 0), (0, 0), (0, 0), (0, 0), (0, 8), (0, 1000), (0, 8), (0, 1000)], [], [], 0, 0, 35, [(0, .inr (3, (0, 480))), (2, .inr (0, (8, 0))), (3, .inr (0, (9, 0)))], [])
noncomputable def rxILF_5 (S0 : Nat → Int → Int) (ws : List Int) (S : Nat → Int → Int) (op arg q : Int) : Prop := rxTk S ∧ rxPz S ∧ 0 ≤ S 480 24 ∧ S 480 18 + S 480 24 ≤ S 480 9 ∧ (S 480 14 = 0 → rxEf S0 S 0 1 ∧ S0 480 9 < S 480 9)
noncomputable def rxmLF_5 (S0 : Nat → Int → Int) (ws : List Int) (S : Nat → Int → Int) (op arg q : Int) : Nat := 50
noncomputable def rxzLF_5 : rx_Z := ([(0, 0), (0, 0), (0, 0), (0, 0), (0, 0), (0, 0), (0, 0), (0, 0), (0, 8), (0, 1000), (0, 49)], [], [], 0, 0, 40, [(0, .inr (3, (0, 480))), (2, .inr (0, (8, 0))), (3, .inr (0, (9, 0)))], [.inr (0, (10, 0)), .inr (3, (0, 480))])
noncomputable def rxoLF_0_0 : bx_HO := (([(0, 0), (0, 0), (0, 0), (0, 0), (0, 0), (0, 0), (0, 0), (0, 0), (1, 1), (0, 8), (0, 1000), (0, 49)], [(3, (8, 0), (0, 0))], [(((0, 0), 1851192626986356801639181172899307091861268768556583502466777088000000), .inr (0, (11, 0))), (((0, 480), 21), .inr (0, (11, 0)))], 0, 0, 19, [(0, .inr (3, (0, 480))), (1, .inr (0, (8, 0))), (2, .inr (0, (9, 0))), (3, .inr (0, (10, 0)))], [.inr (0, (0, 1)), .inr (3, (0, 480))]), [], [], [(0, 0), (0, 0), (0, 0), (0, 0), (0, 0), (0, 0), (0, 0), (0, 0), (9, 0), (10, 0), (0, 1)], 1)
noncomputable def rxoLF_0_1 : bx_HO := (([(0, 0), (0, 0), (0, 0), (0, 0), (0, 0), (0, 0), (0, 0), (0, 0), (1, 1), (0, 8), (0, 1000), (50, 50)], [(3, (8, 0), (0, 0))], [(((0, 0), 1851192626986356801639181172899307091861268768556583502466777088000000), .inr (0, (11, 0))), (((0, 480), 21), .inr (0, (11, 0)))], 0, 0, 19, [(0, .inr (3, (0, 480))), (1, .inr (0, (8, 0))), (2, .inr (0, (9, 0))), (3, .inr (0, (10, 0)))], [.inr (0, (0, 0)), .inr (3, (0, 480))]), [], [], [(0, 0), (0, 0), (0, 0), (0, 0), (0, 0), (0, 0), (0, 0), (0, 0), (9, 0), (10, 0), (0, 0)], 1)
noncomputable def rxoLF_0_2 : bx_HO := (([(0, 0), (0, 0), (0, 0), (0, 0), (0, 0), (0, 0), (0, 0), (0, 0), (0, 0), (0, 8), (0, 1000)], [], [], 0, 0, 19, [(0, .inr (3, (0, 480))), (1, .inr (0, (8, 0))), (2, .inr (0, (9, 0))), (3, .inr (0, (10, 0)))], [.inr (0, (0, 0)), .inr (3, (0, 480))]), [], [], [(0, 0), (0, 0), (0, 0), (0, 0), (0, 0), (0, 0), (0, 0), (0, 0), (9, 0), (10, 0), (0, 0)], 1)
noncomputable def rxoLF_2_0 : bx_HO := (([(0, 0), (0, 0), (0, 0), (0, 0), (0, 0), (0, 0), (0, 0), (0, 0), (0, 8), (0, 1000), (0, 1), (0, 0)], [], [(((0, 0), 1851192626986356800234234225391877833944518517379736727590010880000000), .inr (0, (11, 0))), (((0, 480), 14), .inr (0, (11, 0)))], 0, 0, 32, [(0, .inr (3, (0, 480))), (2, .inr (0, (8, 0))), (3, .inr (0, (9, 0)))], [.inr (0, (9, 0)), .inr (0, (8, 0)), .inr (3, (0, 480))]), [], [], [(0, 0), (0, 0), (0, 0), (0, 0), (0, 0), (0, 0), (0, 0), (0, 0), (8, 0), (9, 0), (8, 0), (9, 0)], 3)
noncomputable def rxeLF_2_0 : rx_End × List (Nat × Int × Int) := (([(0, 0), (0, 0), (0, 0), (0, 0), (0, 0), (0, 0), (0, 0), (0, 0), (0, 8), (0, 1000), (0, 1), (1, 1)], [(3, (11, 0), (0, 0))], [(((0, 0), 1851192626986356800234234225391877833944518517379736727590010880000000), .inr (0, (11, 0))), (((0, 480), 14), .inr (0, (11, 0)))], none), [])
noncomputable def rxoLF_4_0 : bx_HO := (([(0, 0), (0, 0), (0, 0), (0, 0), (0, 0), (0, 0), (0, 0), (0, 0), (0, 8), (0, 1000), (0, 8), (0, 1000), (0, 50)], [], [(((0, 0), 1851192626986356801639181172899307091861268768556583502466777088000000), .inr (0, (12, 0))), (((0, 480), 21), .inr (0, (12, 0)))], 0, 0, 40, [(0, .inr (3, (0, 480))), (2, .inr (0, (8, 0))), (3, .inr (0, (9, 0)))], [.inr (0, (12, 0)), .inr (3, (0, 480))]), [(12, 0, 49)], [], [(0, 0), (0, 0), (0, 0), (0, 0), (0, 0), (0, 0), (0, 0), (0, 0), (8, 0), (9, 0), (12, 0)], 5)
noncomputable def rxeLF_5_0 : rx_End × List (Nat × Int × Int) := (([(0, 0), (0, 0), (0, 0), (0, 0), (0, 0), (0, 0), (0, 0), (0, 0), (0, 8), (0, 1000), (0, 49)], [], [(((0, 0), 1851192626986356801639181172899307091861268768556583502466777091000000), .inr (0, (10, 1))), (((0, 480), 21), .inr (0, (10, 1)))], none), [])
noncomputable def rxYLF : List bx_HE := [(rxzLF_0, [rxoLF_0_0, rxoLF_0_1, rxoLF_0_2], []), (rxzLF_1, [], []), (rxzLF_2, [rxoLF_2_0], [rxeLF_2_0]), (rxzLF_3, [], []), (rxzLF_4, [rxoLF_4_0], []), (rxzLF_5, [], [rxeLF_5_0])]
noncomputable def rxULF (q : bx_HE) : Bool := Nat.beq (rx_zpc q.1) 19 || Nat.beq (rx_zpc q.1) 32
noncomputable def rxYBLF : bx_B := (rxV, rxNP, rxDmf, bx_mdH rxCLF.2.2.1)
set_option maxRecDepth 100000 in
theorem rxYcLF : bx_chkH rxYBLF rxM273 rxCLF rxYLF (rxULF, fun cut z => rx_ex2 (rxCT rxYBLF rxCnE) cut 30000 rxCLF.2.2.2.1 273 z) = true := by decide +kernel
noncomputable def rxILF (S0 : Nat → Int → Int) (ws : List Int) (i : Nat) : bx_SP := fun S r => match i with | 0 => rxILF_0 S0 ws S (r 8) (r 9) (r 10) | 1 => rxILF_1 S0 ws S (r 8) (r 9) (r 10) | 2 => rxILF_2 S0 ws S (r 8) (r 9) (r 10) | 3 => rxILF_3 S0 ws S (r 8) (r 9) (r 10) (r 11) | 4 => rxILF_4 S0 ws S (r 8) (r 9) (r 10) (r 11) | 5 => rxILF_5 S0 ws S (r 8) (r 9) (r 10) | _ => False
noncomputable def rxmLF (S0 : Nat → Int → Int) (ws : List Int) (i : Nat) (S : Nat → Int → Int) (r : Nat → Int) : Nat := match i with | 0 => rxmLF_0 S0 ws S (r 8) (r 9) (r 10) | 1 => rxmLF_1 S0 ws S (r 8) (r 9) (r 10) | 2 => rxmLF_2 S0 ws S (r 8) (r 9) (r 10) | 3 => rxmLF_3 S0 ws S (r 8) (r 9) (r 10) (r 11) | 4 => rxmLF_4 S0 ws S (r 8) (r 9) (r 10) (r 11) | 5 => rxmLF_5 S0 ws S (r 8) (r 9) (r 10) | _ => 0
noncomputable def rxPLF (S0 : Nat → Int → Int) (ws : List Int) : Prop := rxPt S0 ∧ S0 480 14 = 0 ∧ ∃ is op arg : Int, ws = [480, is, op, arg] ∧ (is = 1 → S0 480 11 ≠ 0)
noncomputable def rxPSLF (S0 : Nat → Int → Int) (ws : List Int) (S : Nat → Int → Int) (w : Option Int) : Prop := w = none ∧ rxTk S ∧ rxPz S ∧ 0 ≤ S 480 24 ∧ S 480 18 + S 480 24 ≤ S 480 9 ∧ (S 480 14 = 0 → rxEf S0 S 0 1 ∧ S0 480 9 < S 480 9)
theorem rxkLF_1 {S0 : Nat → Int → Int} {ws : List Int} {S : Nat → Int → Int} {op arg is2 : Int} (hP : rxPLF S0 ws) (hin : bx_same rxL (bx_mdl rxCLF.2.2.1) S0 S) (I0 : bx_Inv rxL S) (hinv : rxILF_1 S0 ws S op arg is2) (l8 : 0 ≤ op) (u8 : op ≤ 8) (l9 : 0 ≤ arg) (u9 : arg ≤ 1000) (l10 : 0 ≤ is2) (u10 : is2 ≤ 1) : rxPMU S [480, is2] ∧ ∀ (S_p : Nat → Int → Int), rxPSMU S [480, is2] S_p none → bx_Inv rxL S_p → bx_same rxL (bx_mdl rxCMU.2.2.1) S S_p → rxILF_2 S0 ws S_p op arg is2 ∧ rxmLF_2 S0 ws S_p op arg is2 < rxmLF_1 S0 ws S op arg is2 := by
  obtain ⟨rfl, h8⟩ := hinv
  obtain ⟨⟨p1, p2, p3, p4⟩, p5, -⟩ := hP
  refine ⟨p1, fun S_p hq I1 hsm => ⟨⟨hq.2.1, rxSm_of hsm (by decide +kernel), fun g => ?_, fun g => ?_⟩, by unfold rxmLF_1 rxmLF_2; omega⟩⟩
  · obtain ⟨-, -, is_p, hw2, hc⟩ := hq
    have he : is2 = is_p := Option.some.inj (congrArg (fun l => l[1]?) hw2)
    have h21 : S_p 480 21 = S 480 21 := rx_sameO hsm (p := 480) (j := 21) rfl (by omega) (by decide +kernel) (by decide)
    rcases hc with ⟨c1, c2, c3, c4⟩ | ⟨c1, c2, c3⟩
    · exact ⟨by rw [h21]; exact (h8 (by omega)).1, (h8 (by omega)).2, c4⟩
    · omega
  · obtain ⟨-, -, is_p, hw2, hc⟩ := hq
    rcases hc with ⟨c1, c2, c3, c4⟩ | ⟨c1, c2, c3, -⟩
    · omega
    · exact c3
theorem rxsLF_1 {X : (Nat → Int → Int) → Prop} {S0 : Nat → Int → Int} {ws : List Int} (hP : rxPLF S0 ws) : rx_obK X S0 rxCLF.2.2.1 rxCMU.2.2.1 (rxILF S0 ws) (rxmLF S0 ws) 1 2 rxzLF_1 rxzLF_2 [.inr (3, (0, 480)), .inr (0, (10, 0))] none rxPMU rxPSMU := by
  intro S r hinv hXS I0 hin hs_ hf_
  have b_ := bx_bds_sat hs_
  have f_ := bx_fcl_ok hs_.1 hf_
  obtain ⟨⟨l8, u8⟩, ⟨l9, u9⟩, ⟨l10, u10⟩, -⟩ := b_
  have g := rxkLF_1 hP hin I0 hinv l8 u8 l9 u9 l10 u10
  have ea : List.map (bx_num r) [.inr (3, (0, 480)), .inr (0, (10, 0))] = [480, (r 10)] := by
    simp only [List.map_cons, List.map_nil, bx_xv_ok hs_.1]
    rfl
  rw [ea]
  refine ⟨g.1, fun S_p w r_p hPS hX_p I1 hsm hr hw hs_p => ?_⟩
  have hw : w = none := hPS.1
  subst hw
  have g2 := g.2 S_p hPS I1 hsm
  show rxILF_2 S0 ws S_p (r_p 8) (r_p 9) (r_p 10) ∧ rxmLF_2 S0 ws S_p (r_p 8) (r_p 9) (r_p 10) < _
  rw [hr 8 (by decide), hr 9 (by decide), hr 10 (by decide)]
  exact g2
theorem rxkLF_3 {S0 : Nat → Int → Int} {ws : List Int} {S : Nat → Int → Int} {op arg op2 arg2 : Int} (hP : rxPLF S0 ws) (hin : bx_same rxL (bx_mdl rxCLF.2.2.1) S0 S) (I0 : bx_Inv rxL S) (hinv : rxILF_3 S0 ws S op arg op2 arg2) (l8 : 0 ≤ op) (u8 : op ≤ 8) (l9 : 0 ≤ arg) (u9 : arg ≤ 1000) (l10 : 0 ≤ op2) (u10 : op2 ≤ 8) (l11 : 0 ≤ arg2) (u11 : arg2 ≤ 1000) : rxPEM S [480, op2, arg2] ∧ ∀ (S_p : Nat → Int → Int), rxPSEM S [480, op2, arg2] S_p none → bx_Inv rxL S_p → bx_same rxL (bx_mdl rxCEM.2.2.1) S S_p → rxILF_4 S0 ws S_p op arg op2 arg2 ∧ rxmLF_4 S0 ws S_p op arg op2 arg2 < rxmLF_3 S0 ws S op arg op2 arg2 := by
  obtain ⟨rfl, h1, h2, h3, h21, hs0, h4⟩ := hinv
  obtain ⟨⟨p1, p2, p3, p4⟩, p5, -⟩ := hP
  have b8 := rxBox8 I0
  have tk := h1.2.1
  have tk2 := h1.2.2.1
  have tk0 := p1.2.2.2.1 hs0
  have k18 := h2.1
  have k24 := h2.2.1
  have b24 := rxBox24 I0
  have b18 := rxBox18 I0
  have hz := h2.pz p2 (by omega)
  refine ⟨by show S 480 18 ≤ 399; omega, fun S_p hq I1 hsm => ?_⟩
  obtain ⟨-, o_p, a_p, hw3, rfl⟩ := hq
  have ho : op2 = o_p := Option.some.inj (congrArg (fun l => l[1]?) hw3)
  subst ho
  have f9 : rxEmE S op2 a_p 480 9 = S 480 9 := by unfold rxEmE; simp [bx_up]
  have f18 : rxEmE S op2 a_p 480 18 = S 480 18 + 1 := by unfold rxEmE; simp [bx_up]
  have f24 : rxEmE S op2 a_p 480 24 = S 480 24 := by unfold rxEmE; simp [bx_up]
  have f21 : rxEmE S op2 a_p 480 21 = S 480 21 := by unfold rxEmE; simp [bx_up]
  have hTk : rxTk (rxEmE S op2 a_p) := by
    unfold rxTk rxEmE
    simp [bx_up]
    unfold rxTk at h1
    omega
  refine ⟨⟨by show rxEmE S op2 a_p 480 21 < 50; omega, hTk, rxEmE_pz hz, by show 0 ≤ rxEmE S op2 a_p 480 24; omega, by show rxEmE S op2 a_p 480 18 + rxEmE S op2 a_p 480 24 ≤ rxEmE S op2 a_p 480 9; omega, fun _ => ⟨(h2.ef (by omega) (by omega) 0).tr (rxLeaf_ef ⟨by omega, by omega⟩), by show S0 480 9 < rxEmE S op2 a_p 480 9; omega⟩⟩, by unfold rxmLF_3 rxmLF_4; omega⟩
theorem rxsLF_3 {X : (Nat → Int → Int) → Prop} {S0 : Nat → Int → Int} {ws : List Int} (hP : rxPLF S0 ws) : rx_obK X S0 rxCLF.2.2.1 rxCEM.2.2.1 (rxILF S0 ws) (rxmLF S0 ws) 3 4 rxzLF_3 rxzLF_4 [.inr (3, (0, 480)), .inr (0, (10, 0)), .inr (0, (11, 0))] none rxPEM rxPSEM := by
  intro S r hinv hXS I0 hin hs_ hf_
  have b_ := bx_bds_sat hs_
  have f_ := bx_fcl_ok hs_.1 hf_
  obtain ⟨⟨l8, u8⟩, ⟨l9, u9⟩, ⟨l10, u10⟩, ⟨l11, u11⟩, -⟩ := b_
  have g := rxkLF_3 hP hin I0 hinv l8 u8 l9 u9 l10 u10 l11 u11
  have ea : List.map (bx_num r) [.inr (3, (0, 480)), .inr (0, (10, 0)), .inr (0, (11, 0))] = [480, (r 10), (r 11)] := by
    simp only [List.map_cons, List.map_nil, bx_xv_ok hs_.1]
    rfl
  rw [ea]
  refine ⟨g.1, fun S_p w r_p hPS hX_p I1 hsm hr hw hs_p => ?_⟩
  have hw : w = none := hPS.1
  subst hw
  have g2 := g.2 S_p hPS I1 hsm
  show rxILF_4 S0 ws S_p (r_p 8) (r_p 9) (r_p 10) (r_p 11) ∧ rxmLF_4 S0 ws S_p (r_p 8) (r_p 9) (r_p 10) (r_p 11) < _
  rw [hr 8 (by decide), hr 9 (by decide), hr 10 (by decide), hr 11 (by decide)]
  exact g2
theorem rxcLF_0_0 {S0 : Nat → Int → Int} {ws : List Int} {S : Nat → Int → Int} {is op arg x11 : Int} (hP : rxPLF S0 ws) (hin : bx_same rxL (bx_mdl rxCLF.2.2.1) S0 S) (I0 : bx_Inv rxL S) (hinv : rxILF_0 S0 ws S is op arg) (l8 : 1 ≤ is) (u8 : is ≤ 1) (l9 : 0 ≤ op) (u9 : op ≤ 8) (l10 : 0 ≤ arg) (u10 : arg ≤ 1000) (l11 : 0 ≤ x11) (u11 : x11 ≤ 49) (f0 : is ≠ 0) (e0 : S 480 21 = x11) : (True) ∧ (True) ∧ rxILF_1 S0 ws S op arg 1 ∧ rxmLF_1 S0 ws S op arg 1 < rxmLF_0 S0 ws S is op arg := by
  obtain ⟨rfl, hw⟩ := hinv
  obtain ⟨p0, p5, is_p, op_p, arg_p, hw2, p7⟩ := hP
  have he : is = is_p := Option.some.inj (congrArg (fun l => l[1]?) (hw.symm.trans hw2))
  exact ⟨trivial, trivial, ⟨rfl, fun q => by first | omega | exact ⟨by omega, p7 (by omega)⟩⟩, by unfold rxmLF_0 rxmLF_1; omega⟩
theorem rxgLF_0_0 {X : (Nat → Int → Int) → Prop} {S0 : Nat → Int → Int} {ws : List Int} (hP : rxPLF S0 ws) : bx_obC rxL X S0 rxCLF.2.2.1 (rxILF S0 ws) (rxmLF S0 ws) 0 rxzLF_0 rxoLF_0_0 := by
  intro S S_p r r_p hinv hX hin hsm_ hseg
  obtain ⟨I0, I1, h0_, hr_, b_, f_, d_⟩ := bx_cl (evs := [(0, (0, 480), (0, 21), .inr (0, (11, 0)))]) (fvs := [(3, (8, 0), (0, 0), (0, 0))]) hseg (by decide +kernel) (by decide +kernel)
  have hinv : rxILF_0 S0 ws S (r 8) (r 9) (r 10) := hinv
  rw [← hr_ 8 (by decide), ← hr_ 9 (by decide), ← hr_ 10 (by decide)] at hinv
  obtain ⟨⟨l8, u8⟩, ⟨l9, u9⟩, ⟨l10, u10⟩, ⟨l11, u11⟩, -⟩ := b_
  obtain ⟨f0, -⟩ := f_
  obtain ⟨e0, w_⟩ := d_
  subst w_
  have g := rxcLF_0_0 hP hin I0 hinv l8 u8 l9 u9 l10 u10 l11 u11 f0 e0
  refine ⟨bx_narP_ok (l := []) g.1, bx_nfP_ok h0_ (fvs := []) (by decide +kernel) g.2.1, ?_, ?_⟩
  · show rxILF_1 S0 ws S_p (bx_val [(0, 0), (0, 0), (0, 0), (0, 0), (0, 0), (0, 0), (0, 0), (0, 0), (9, 0), (10, 0), (0, 1)] r_p 8) (bx_val [(0, 0), (0, 0), (0, 0), (0, 0), (0, 0), (0, 0), (0, 0), (0, 0), (9, 0), (10, 0), (0, 1)] r_p 9) (bx_val [(0, 0), (0, 0), (0, 0), (0, 0), (0, 0), (0, 0), (0, 0), (0, 0), (9, 0), (10, 0), (0, 1)] r_p 10)
    rw [bx_val_x (n := 8) (e := (9, 0)) h0_ rfl, bx_val_x (n := 9) (e := (10, 0)) h0_ rfl, bx_val_x (n := 10) (e := (0, 1)) h0_ rfl]
    exact g.2.2.1
  · show rxmLF_1 S0 ws S_p (bx_val [(0, 0), (0, 0), (0, 0), (0, 0), (0, 0), (0, 0), (0, 0), (0, 0), (9, 0), (10, 0), (0, 1)] r_p 8) (bx_val [(0, 0), (0, 0), (0, 0), (0, 0), (0, 0), (0, 0), (0, 0), (0, 0), (9, 0), (10, 0), (0, 1)] r_p 9) (bx_val [(0, 0), (0, 0), (0, 0), (0, 0), (0, 0), (0, 0), (0, 0), (0, 0), (9, 0), (10, 0), (0, 1)] r_p 10) < rxmLF_0 S0 ws S_p (r 8) (r 9) (r 10)
    rw [bx_val_x (n := 8) (e := (9, 0)) h0_ rfl, bx_val_x (n := 9) (e := (10, 0)) h0_ rfl, bx_val_x (n := 10) (e := (0, 1)) h0_ rfl, ← hr_ 8 (by decide), ← hr_ 9 (by decide), ← hr_ 10 (by decide)]
    exact g.2.2.2
theorem rxcLF_0_1 {S0 : Nat → Int → Int} {ws : List Int} {S : Nat → Int → Int} {is op arg x11 : Int} (hP : rxPLF S0 ws) (hin : bx_same rxL (bx_mdl rxCLF.2.2.1) S0 S) (I0 : bx_Inv rxL S) (hinv : rxILF_0 S0 ws S is op arg) (l8 : 1 ≤ is) (u8 : is ≤ 1) (l9 : 0 ≤ op) (u9 : op ≤ 8) (l10 : 0 ≤ arg) (u10 : arg ≤ 1000) (l11 : 50 ≤ x11) (u11 : x11 ≤ 50) (f0 : is ≠ 0) (e0 : S 480 21 = x11) : (True) ∧ (True) ∧ rxILF_1 S0 ws S op arg 0 ∧ rxmLF_1 S0 ws S op arg 0 < rxmLF_0 S0 ws S is op arg := by
  obtain ⟨rfl, hw⟩ := hinv
  obtain ⟨p0, p5, is_p, op_p, arg_p, hw2, p7⟩ := hP
  have he : is = is_p := Option.some.inj (congrArg (fun l => l[1]?) (hw.symm.trans hw2))
  exact ⟨trivial, trivial, ⟨rfl, fun q => by first | omega | exact ⟨by omega, p7 (by omega)⟩⟩, by unfold rxmLF_0 rxmLF_1; omega⟩
theorem rxgLF_0_1 {X : (Nat → Int → Int) → Prop} {S0 : Nat → Int → Int} {ws : List Int} (hP : rxPLF S0 ws) : bx_obC rxL X S0 rxCLF.2.2.1 (rxILF S0 ws) (rxmLF S0 ws) 0 rxzLF_0 rxoLF_0_1 := by
  intro S S_p r r_p hinv hX hin hsm_ hseg
  obtain ⟨I0, I1, h0_, hr_, b_, f_, d_⟩ := bx_cl (evs := [(0, (0, 480), (0, 21), .inr (0, (11, 0)))]) (fvs := [(3, (8, 0), (0, 0), (0, 0))]) hseg (by decide +kernel) (by decide +kernel)
  have hinv : rxILF_0 S0 ws S (r 8) (r 9) (r 10) := hinv
  rw [← hr_ 8 (by decide), ← hr_ 9 (by decide), ← hr_ 10 (by decide)] at hinv
  obtain ⟨⟨l8, u8⟩, ⟨l9, u9⟩, ⟨l10, u10⟩, ⟨l11, u11⟩, -⟩ := b_
  obtain ⟨f0, -⟩ := f_
  obtain ⟨e0, w_⟩ := d_
  subst w_
  have g := rxcLF_0_1 hP hin I0 hinv l8 u8 l9 u9 l10 u10 l11 u11 f0 e0
  refine ⟨bx_narP_ok (l := []) g.1, bx_nfP_ok h0_ (fvs := []) (by decide +kernel) g.2.1, ?_, ?_⟩
  · show rxILF_1 S0 ws S_p (bx_val [(0, 0), (0, 0), (0, 0), (0, 0), (0, 0), (0, 0), (0, 0), (0, 0), (9, 0), (10, 0), (0, 0)] r_p 8) (bx_val [(0, 0), (0, 0), (0, 0), (0, 0), (0, 0), (0, 0), (0, 0), (0, 0), (9, 0), (10, 0), (0, 0)] r_p 9) (bx_val [(0, 0), (0, 0), (0, 0), (0, 0), (0, 0), (0, 0), (0, 0), (0, 0), (9, 0), (10, 0), (0, 0)] r_p 10)
    rw [bx_val_x (n := 8) (e := (9, 0)) h0_ rfl, bx_val_x (n := 9) (e := (10, 0)) h0_ rfl, bx_val_x (n := 10) (e := (0, 0)) h0_ rfl]
    exact g.2.2.1
  · show rxmLF_1 S0 ws S_p (bx_val [(0, 0), (0, 0), (0, 0), (0, 0), (0, 0), (0, 0), (0, 0), (0, 0), (9, 0), (10, 0), (0, 0)] r_p 8) (bx_val [(0, 0), (0, 0), (0, 0), (0, 0), (0, 0), (0, 0), (0, 0), (0, 0), (9, 0), (10, 0), (0, 0)] r_p 9) (bx_val [(0, 0), (0, 0), (0, 0), (0, 0), (0, 0), (0, 0), (0, 0), (0, 0), (9, 0), (10, 0), (0, 0)] r_p 10) < rxmLF_0 S0 ws S_p (r 8) (r 9) (r 10)
    rw [bx_val_x (n := 8) (e := (9, 0)) h0_ rfl, bx_val_x (n := 9) (e := (10, 0)) h0_ rfl, bx_val_x (n := 10) (e := (0, 0)) h0_ rfl, ← hr_ 8 (by decide), ← hr_ 9 (by decide), ← hr_ 10 (by decide)]
    exact g.2.2.2
theorem rxcLF_0_2 {S0 : Nat → Int → Int} {ws : List Int} {S : Nat → Int → Int} {is op arg : Int} (hP : rxPLF S0 ws) (hin : bx_same rxL (bx_mdl rxCLF.2.2.1) S0 S) (I0 : bx_Inv rxL S) (hinv : rxILF_0 S0 ws S is op arg) (l8 : 0 ≤ is) (u8 : is ≤ 0) (l9 : 0 ≤ op) (u9 : op ≤ 8) (l10 : 0 ≤ arg) (u10 : arg ≤ 1000) : (True) ∧ (True) ∧ rxILF_1 S0 ws S op arg 0 ∧ rxmLF_1 S0 ws S op arg 0 < rxmLF_0 S0 ws S is op arg := by
  obtain ⟨rfl, hw⟩ := hinv
  obtain ⟨p0, p5, is_p, op_p, arg_p, hw2, p7⟩ := hP
  have he : is = is_p := Option.some.inj (congrArg (fun l => l[1]?) (hw.symm.trans hw2))
  exact ⟨trivial, trivial, ⟨rfl, fun q => by first | omega | exact ⟨by omega, p7 (by omega)⟩⟩, by unfold rxmLF_0 rxmLF_1; omega⟩
theorem rxgLF_0_2 {X : (Nat → Int → Int) → Prop} {S0 : Nat → Int → Int} {ws : List Int} (hP : rxPLF S0 ws) : bx_obC rxL X S0 rxCLF.2.2.1 (rxILF S0 ws) (rxmLF S0 ws) 0 rxzLF_0 rxoLF_0_2 := by
  intro S S_p r r_p hinv hX hin hsm_ hseg
  obtain ⟨I0, I1, h0_, hr_, b_, f_, d_⟩ := bx_cl (evs := []) (fvs := []) hseg (by decide +kernel) (by decide +kernel)
  have hinv : rxILF_0 S0 ws S (r 8) (r 9) (r 10) := hinv
  rw [← hr_ 8 (by decide), ← hr_ 9 (by decide), ← hr_ 10 (by decide)] at hinv
  obtain ⟨⟨l8, u8⟩, ⟨l9, u9⟩, ⟨l10, u10⟩, -⟩ := b_
  have w_ := d_
  subst w_
  have g := rxcLF_0_2 hP hin I0 hinv l8 u8 l9 u9 l10 u10
  refine ⟨bx_narP_ok (l := []) g.1, bx_nfP_ok h0_ (fvs := []) (by decide +kernel) g.2.1, ?_, ?_⟩
  · show rxILF_1 S0 ws S_p (bx_val [(0, 0), (0, 0), (0, 0), (0, 0), (0, 0), (0, 0), (0, 0), (0, 0), (9, 0), (10, 0), (0, 0)] r_p 8) (bx_val [(0, 0), (0, 0), (0, 0), (0, 0), (0, 0), (0, 0), (0, 0), (0, 0), (9, 0), (10, 0), (0, 0)] r_p 9) (bx_val [(0, 0), (0, 0), (0, 0), (0, 0), (0, 0), (0, 0), (0, 0), (0, 0), (9, 0), (10, 0), (0, 0)] r_p 10)
    rw [bx_val_x (n := 8) (e := (9, 0)) h0_ rfl, bx_val_x (n := 9) (e := (10, 0)) h0_ rfl, bx_val_x (n := 10) (e := (0, 0)) h0_ rfl]
    exact g.2.2.1
  · show rxmLF_1 S0 ws S_p (bx_val [(0, 0), (0, 0), (0, 0), (0, 0), (0, 0), (0, 0), (0, 0), (0, 0), (9, 0), (10, 0), (0, 0)] r_p 8) (bx_val [(0, 0), (0, 0), (0, 0), (0, 0), (0, 0), (0, 0), (0, 0), (0, 0), (9, 0), (10, 0), (0, 0)] r_p 9) (bx_val [(0, 0), (0, 0), (0, 0), (0, 0), (0, 0), (0, 0), (0, 0), (0, 0), (9, 0), (10, 0), (0, 0)] r_p 10) < rxmLF_0 S0 ws S_p (r 8) (r 9) (r 10)
    rw [bx_val_x (n := 8) (e := (9, 0)) h0_ rfl, bx_val_x (n := 9) (e := (10, 0)) h0_ rfl, bx_val_x (n := 10) (e := (0, 0)) h0_ rfl, ← hr_ 8 (by decide), ← hr_ 9 (by decide), ← hr_ 10 (by decide)]
    exact g.2.2.2
theorem rxcLF_2_0 {S0 : Nat → Int → Int} {ws : List Int} {S : Nat → Int → Int} {op arg is2 x11 : Int} (hP : rxPLF S0 ws) (hin : bx_same rxL (bx_mdl rxCLF.2.2.1) S0 S) (I0 : bx_Inv rxL S) (hinv : rxILF_2 S0 ws S op arg is2) (l8 : 0 ≤ op) (u8 : op ≤ 8) (l9 : 0 ≤ arg) (u9 : arg ≤ 1000) (l10 : 0 ≤ is2) (u10 : is2 ≤ 1) (l11 : 0 ≤ x11) (u11 : x11 ≤ 0) (e0 : S 480 14 = x11) : (True) ∧ (True) ∧ rxILF_3 S0 ws S op arg op arg ∧ rxmLF_3 S0 ws S op arg op arg < rxmLF_2 S0 ws S op arg is2 := by
  obtain ⟨h1, h2, h3, h4⟩ := hinv
  have h5 := h3 (by omega)
  exact ⟨trivial, trivial, ⟨rfl, h1, h2, by omega, h5.1, h5.2.1, h5.2.2⟩, by unfold rxmLF_2 rxmLF_3; omega⟩
theorem rxgLF_2_0 {X : (Nat → Int → Int) → Prop} {S0 : Nat → Int → Int} {ws : List Int} (hP : rxPLF S0 ws) : bx_obC rxL X S0 rxCLF.2.2.1 (rxILF S0 ws) (rxmLF S0 ws) 2 rxzLF_2 rxoLF_2_0 := by
  intro S S_p r r_p hinv hX hin hsm_ hseg
  obtain ⟨I0, I1, h0_, hr_, b_, f_, d_⟩ := bx_cl (evs := [(0, (0, 480), (0, 14), .inr (0, (11, 0)))]) (fvs := []) hseg (by decide +kernel) (by decide +kernel)
  have hinv : rxILF_2 S0 ws S (r 8) (r 9) (r 10) := hinv
  rw [← hr_ 8 (by decide), ← hr_ 9 (by decide), ← hr_ 10 (by decide)] at hinv
  obtain ⟨⟨l8, u8⟩, ⟨l9, u9⟩, ⟨l10, u10⟩, ⟨l11, u11⟩, -⟩ := b_
  obtain ⟨e0, w_⟩ := d_
  subst w_
  have g := rxcLF_2_0 hP hin I0 hinv l8 u8 l9 u9 l10 u10 l11 u11 e0
  refine ⟨bx_narP_ok (l := []) g.1, bx_nfP_ok h0_ (fvs := []) (by decide +kernel) g.2.1, ?_, ?_⟩
  · show rxILF_3 S0 ws S_p (bx_val [(0, 0), (0, 0), (0, 0), (0, 0), (0, 0), (0, 0), (0, 0), (0, 0), (8, 0), (9, 0), (8, 0), (9, 0)] r_p 8) (bx_val [(0, 0), (0, 0), (0, 0), (0, 0), (0, 0), (0, 0), (0, 0), (0, 0), (8, 0), (9, 0), (8, 0), (9, 0)] r_p 9) (bx_val [(0, 0), (0, 0), (0, 0), (0, 0), (0, 0), (0, 0), (0, 0), (0, 0), (8, 0), (9, 0), (8, 0), (9, 0)] r_p 10) (bx_val [(0, 0), (0, 0), (0, 0), (0, 0), (0, 0), (0, 0), (0, 0), (0, 0), (8, 0), (9, 0), (8, 0), (9, 0)] r_p 11)
    rw [bx_val_x (n := 8) (e := (8, 0)) h0_ rfl, bx_val_x (n := 9) (e := (9, 0)) h0_ rfl, bx_val_x (n := 10) (e := (8, 0)) h0_ rfl, bx_val_x (n := 11) (e := (9, 0)) h0_ rfl]
    exact g.2.2.1
  · show rxmLF_3 S0 ws S_p (bx_val [(0, 0), (0, 0), (0, 0), (0, 0), (0, 0), (0, 0), (0, 0), (0, 0), (8, 0), (9, 0), (8, 0), (9, 0)] r_p 8) (bx_val [(0, 0), (0, 0), (0, 0), (0, 0), (0, 0), (0, 0), (0, 0), (0, 0), (8, 0), (9, 0), (8, 0), (9, 0)] r_p 9) (bx_val [(0, 0), (0, 0), (0, 0), (0, 0), (0, 0), (0, 0), (0, 0), (0, 0), (8, 0), (9, 0), (8, 0), (9, 0)] r_p 10) (bx_val [(0, 0), (0, 0), (0, 0), (0, 0), (0, 0), (0, 0), (0, 0), (0, 0), (8, 0), (9, 0), (8, 0), (9, 0)] r_p 11) < rxmLF_2 S0 ws S_p (r 8) (r 9) (r 10)
    rw [bx_val_x (n := 8) (e := (8, 0)) h0_ rfl, bx_val_x (n := 9) (e := (9, 0)) h0_ rfl, bx_val_x (n := 10) (e := (8, 0)) h0_ rfl, bx_val_x (n := 11) (e := (9, 0)) h0_ rfl, ← hr_ 8 (by decide), ← hr_ 9 (by decide), ← hr_ 10 (by decide)]
    exact g.2.2.2
theorem rxdLF_2_0 {S0 : Nat → Int → Int} {ws : List Int} {S : Nat → Int → Int} {op arg is2 x11 : Int} (hP : rxPLF S0 ws) (hin : bx_same rxL (bx_mdl rxCLF.2.2.1) S0 S) (hin2 : bx_same rxL (bx_mdl rxCLF.2.2.1) S S) (I0 : bx_Inv rxL S) (I1 : bx_Inv rxL S) (hinv : rxILF_2 S0 ws S op arg is2) (l8 : 0 ≤ op) (u8 : op ≤ 8) (l9 : 0 ≤ arg) (u9 : arg ≤ 1000) (l10 : 0 ≤ is2) (u10 : is2 ≤ 1) (l11 : 1 ≤ x11) (u11 : x11 ≤ 1) (f0 : x11 ≠ 0) (e0 : S 480 14 = x11) : (True) ∧ rxPSLF S0 ws S none := by
  obtain ⟨h1, h2, h3, h4⟩ := hinv
  obtain ⟨⟨p1, p2, p3, p4⟩, p5, -⟩ := hP
  have k18 := h2.1
  have k24 := h2.2.1
  have b24 := rxBox24 I0
  have g := h4 (by omega)
  exact ⟨trivial, rfl, h1, h2.pz p2 (by omega), by omega, by omega, fun q => by omega⟩
theorem rxfLF_2_0 {X : (Nat → Int → Int) → Prop} {S0 : Nat → Int → Int} {ws : List Int} (hP : rxPLF S0 ws) : bx_obE rxL X S0 rxCLF.2.2.1 (rxILF S0 ws) (rxPSLF S0 ws) 2 rxzLF_2 rxeLF_2_0 := by
  intro S S_p r r_p hinv hX hin hsm_ hseg
  obtain ⟨I0, I1, h0_, hr_, b_, f_, d_⟩ := bx_cl (evs := [(0, (0, 480), (0, 14), .inr (0, (11, 0)))]) (fvs := [(3, (11, 0), (0, 0), (0, 0))]) hseg (by decide +kernel) (by decide +kernel)
  have hinv : rxILF_2 S0 ws S (r 8) (r 9) (r 10) := hinv
  rw [← hr_ 8 (by decide), ← hr_ 9 (by decide), ← hr_ 10 (by decide)] at hinv
  obtain ⟨⟨l8, u8⟩, ⟨l9, u9⟩, ⟨l10, u10⟩, ⟨l11, u11⟩, -⟩ := b_
  obtain ⟨f0, -⟩ := f_
  obtain ⟨e0, w_⟩ := d_
  subst w_
  have g := rxdLF_2_0 hP hin hsm_ I0 I1 hinv l8 u8 l9 u9 l10 u10 l11 u11 f0 e0
  refine ⟨bx_narP_ok (l := []) g.1, ?_⟩
  exact g.2
theorem rxcLF_4_0 {S0 : Nat → Int → Int} {ws : List Int} {S : Nat → Int → Int} {op arg op2 arg2 x12 : Int} (hP : rxPLF S0 ws) (hin : bx_same rxL (bx_mdl rxCLF.2.2.1) S0 S) (I0 : bx_Inv rxL S) (hinv : rxILF_4 S0 ws S op arg op2 arg2) (l8 : 0 ≤ op) (u8 : op ≤ 8) (l9 : 0 ≤ arg) (u9 : arg ≤ 1000) (l10 : 0 ≤ op2) (u10 : op2 ≤ 8) (l11 : 0 ≤ arg2) (u11 : arg2 ≤ 1000) (l12 : 0 ≤ x12) (u12 : x12 ≤ 50) (e0 : S 480 21 = x12) : ((0 ≤ x12 ∧ x12 ≤ 49) ∧ True) ∧ (True) ∧ rxILF_5 S0 ws S op arg x12 ∧ rxmLF_5 S0 ws S op arg x12 < rxmLF_4 S0 ws S op arg op2 arg2 := by
  obtain ⟨h1, h2⟩ := hinv
  exact ⟨⟨by omega, trivial⟩, trivial, h2, by unfold rxmLF_4 rxmLF_5; omega⟩
theorem rxgLF_4_0 {X : (Nat → Int → Int) → Prop} {S0 : Nat → Int → Int} {ws : List Int} (hP : rxPLF S0 ws) : bx_obC rxL X S0 rxCLF.2.2.1 (rxILF S0 ws) (rxmLF S0 ws) 4 rxzLF_4 rxoLF_4_0 := by
  intro S S_p r r_p hinv hX hin hsm_ hseg
  obtain ⟨I0, I1, h0_, hr_, b_, f_, d_⟩ := bx_cl (evs := [(0, (0, 480), (0, 21), .inr (0, (12, 0)))]) (fvs := []) hseg (by decide +kernel) (by decide +kernel)
  have hinv : rxILF_4 S0 ws S (r 8) (r 9) (r 10) (r 11) := hinv
  rw [← hr_ 8 (by decide), ← hr_ 9 (by decide), ← hr_ 10 (by decide), ← hr_ 11 (by decide)] at hinv
  obtain ⟨⟨l8, u8⟩, ⟨l9, u9⟩, ⟨l10, u10⟩, ⟨l11, u11⟩, ⟨l12, u12⟩, -⟩ := b_
  obtain ⟨e0, w_⟩ := d_
  subst w_
  have g := rxcLF_4_0 hP hin I0 hinv l8 u8 l9 u9 l10 u10 l11 u11 l12 u12 e0
  refine ⟨bx_narP_ok (l := [(12, 0, 49)]) g.1, bx_nfP_ok h0_ (fvs := []) (by decide +kernel) g.2.1, ?_, ?_⟩
  · show rxILF_5 S0 ws S_p (bx_val [(0, 0), (0, 0), (0, 0), (0, 0), (0, 0), (0, 0), (0, 0), (0, 0), (8, 0), (9, 0), (12, 0)] r_p 8) (bx_val [(0, 0), (0, 0), (0, 0), (0, 0), (0, 0), (0, 0), (0, 0), (0, 0), (8, 0), (9, 0), (12, 0)] r_p 9) (bx_val [(0, 0), (0, 0), (0, 0), (0, 0), (0, 0), (0, 0), (0, 0), (0, 0), (8, 0), (9, 0), (12, 0)] r_p 10)
    rw [bx_val_x (n := 8) (e := (8, 0)) h0_ rfl, bx_val_x (n := 9) (e := (9, 0)) h0_ rfl, bx_val_x (n := 10) (e := (12, 0)) h0_ rfl]
    exact g.2.2.1
  · show rxmLF_5 S0 ws S_p (bx_val [(0, 0), (0, 0), (0, 0), (0, 0), (0, 0), (0, 0), (0, 0), (0, 0), (8, 0), (9, 0), (12, 0)] r_p 8) (bx_val [(0, 0), (0, 0), (0, 0), (0, 0), (0, 0), (0, 0), (0, 0), (0, 0), (8, 0), (9, 0), (12, 0)] r_p 9) (bx_val [(0, 0), (0, 0), (0, 0), (0, 0), (0, 0), (0, 0), (0, 0), (0, 0), (8, 0), (9, 0), (12, 0)] r_p 10) < rxmLF_4 S0 ws S_p (r 8) (r 9) (r 10) (r 11)
    rw [bx_val_x (n := 8) (e := (8, 0)) h0_ rfl, bx_val_x (n := 9) (e := (9, 0)) h0_ rfl, bx_val_x (n := 10) (e := (12, 0)) h0_ rfl, ← hr_ 8 (by decide), ← hr_ 9 (by decide), ← hr_ 10 (by decide), ← hr_ 11 (by decide)]
    exact g.2.2.2
theorem rxdLF_5_0 {S0 : Nat → Int → Int} {ws : List Int} {S : Nat → Int → Int} {op arg q : Int} (hP : rxPLF S0 ws) (hin : bx_same rxL (bx_mdl rxCLF.2.2.1) S0 S) (hin2 : bx_same rxL (bx_mdl rxCLF.2.2.1) S (bx_up S 480 21 (q + 1))) (I0 : bx_Inv rxL S) (I1 : bx_Inv rxL (bx_up S 480 21 (q + 1))) (hinv : rxILF_5 S0 ws S op arg q) (l8 : 0 ≤ op) (u8 : op ≤ 8) (l9 : 0 ≤ arg) (u9 : arg ≤ 1000) (l10 : 0 ≤ q) (u10 : q ≤ 49) : (True) ∧ rxPSLF S0 ws (bx_up S 480 21 (q + 1)) none := by
  obtain ⟨h1, h2, h3, h4, h5⟩ := hinv
  have f9 : (bx_up S 480 21 (q + 1)) 480 9 = S 480 9 := by simp [bx_up]
  have f14 : (bx_up S 480 21 (q + 1)) 480 14 = S 480 14 := by simp [bx_up]
  have f18 : (bx_up S 480 21 (q + 1)) 480 18 = S 480 18 := by simp [bx_up]
  have f24 : (bx_up S 480 21 (q + 1)) 480 24 = S 480 24 := by simp [bx_up]
  have hTk : rxTk (bx_up S 480 21 (q + 1)) := by
    unfold rxTk
    simp [bx_up]
    unfold rxTk at h1
    omega
  have hsm : rxSm S (bx_up S 480 21 (q + 1)) := ⟨f18, f24, by simp [bx_up], fun i _ _ => ⟨by simp [bx_up], by simp [bx_up], by simp [bx_up], by simp [bx_up]⟩⟩
  have b18 := rxBox18 I0
  have b24 := rxBox24 I0
  exact ⟨trivial, rfl, hTk, hsm.pz h2 b24.2, by omega, by omega, fun q => ⟨(h5 (by omega)).1.tr (hsm.ef b24.2 b18.2 1), by have := (h5 (by omega)).2; omega⟩⟩
theorem rxfLF_5_0 {X : (Nat → Int → Int) → Prop} {S0 : Nat → Int → Int} {ws : List Int} (hP : rxPLF S0 ws) : bx_obE rxL X S0 rxCLF.2.2.1 (rxILF S0 ws) (rxPSLF S0 ws) 5 rxzLF_5 rxeLF_5_0 := by
  intro S S_p r r_p hinv hX hin hsm_ hseg
  obtain ⟨I0, I1, h0_, hr_, b_, f_, d_⟩ := bx_cl (evs := [(1, (0, 480), (0, 21), .inr (0, (10, 1)))]) (fvs := []) hseg (by decide +kernel) (by decide +kernel)
  have hinv : rxILF_5 S0 ws S (r 8) (r 9) (r 10) := hinv
  rw [← hr_ 8 (by decide), ← hr_ 9 (by decide), ← hr_ 10 (by decide)] at hinv
  obtain ⟨⟨l8, u8⟩, ⟨l9, u9⟩, ⟨l10, u10⟩, -⟩ := b_
  obtain ⟨T0, w_, w0⟩ := d_
  subst w0
  subst w_
  have g := rxdLF_5_0 hP hin hsm_ I0 I1 hinv l8 u8 l9 u9 l10 u10
  refine ⟨bx_narP_ok (l := []) g.1, ?_⟩
  exact g.2
theorem rxgCLF {X : (Nat → Int → Int) → Prop} {S0 : Nat → Int → Int} {ws : List Int} (hP : rxPLF S0 ws) : bx_allI (fun i q => rxULF q = true ∨ bx_allP (fun o => bx_obC rxL X S0 rxCLF.2.2.1 (rxILF S0 ws) (rxmLF S0 ws) i q.1 o) q.2.1) 0 rxYLF := ⟨Or.inr ⟨rxgLF_0_0 hP, rxgLF_0_1 hP, rxgLF_0_2 hP, trivial⟩, Or.inl rfl, Or.inr ⟨rxgLF_2_0 hP, trivial⟩, Or.inl rfl, Or.inr ⟨rxgLF_4_0 hP, trivial⟩, Or.inr trivial, trivial⟩
theorem rxgELF {X : (Nat → Int → Int) → Prop} {S0 : Nat → Int → Int} {ws : List Int} (hP : rxPLF S0 ws) : bx_allI (fun i q => rxULF q = true ∨ bx_allP (fun E => bx_obE rxL X S0 rxCLF.2.2.1 (rxILF S0 ws) (rxPSLF S0 ws) i q.1 E) q.2.2) 0 rxYLF := ⟨Or.inr trivial, Or.inl rfl, Or.inr ⟨rxfLF_2_0 hP, trivial⟩, Or.inl rfl, Or.inr trivial, Or.inr ⟨rxfLF_5_0 hP, trivial⟩, trivial⟩
theorem rxuLF {PX : State → Prop} {Dg : va_G} {A : Nat → Prop} {ad xa : Nat → Nat} {l : Launch} {X : (Nat → Int → Int) → Prop} (hPX : rx_PXOK rxNW A PX) (hX : ∀ S S1 : Nat → Int → Int, X S → bx_same rxL (bx_mdl rxCLF.2.2.1) S S1 → X S1) (hQMU : bx_ConP rxG rxNW rxAO PX Dg rxL X vwCl A ad l rxM265 rxCMU rxPMU rxPSMU) (hQEM : bx_ConP rxG rxNW rxAO PX Dg rxL X vwCl A ad l rxM266 rxCEM rxPEM rxPSEM) {S0 : Nat → Int → Int} {ws : List Int} (hP : rxPLF S0 ws) : ∀ (i : Nat) (q : bx_HE), rxYLF[i]? = some q → rxULF q = true → ∀ {p : Program} {e : Env} {R : Room} {s : State} {m : MethodId} {args : Array Value} {below : List Frame} {meth : Method} {c : Code} {Q : State → Prop} {H0 : Heap}, rx_Fr rxG rxNW rxAO PX p s m args meth c rxM273 → (∀ q, H0.size ≤ q → A q) → H0 = s.heap → rxM273.2.2.2.2.2.2.1 ≤ R.cells → rxM273.2.2.2.2.2.2.2 ≤ R.slots → rxCLF.2.2.2.1 ≤ R.frames → rxCLF.2.2.2.1 * 40 ≤ R.locals → bx_Step p l e R s m args below meth c Q Dg rxL X vwCl A xa H0 ad rxM273 rxYLF (rxILF S0 ws) (rxmLF S0 ws) S0 rxCLF.2.2.1 i q := by
  intro i q hq hus p e R s m args below meth c Q H0 hF hA hH0 hmc hms hd hdl
  match i, hq with
  | 0, hq =>
    cases hq
    exact absurd (show false = true from hus) Bool.false_ne_true
  | 1, hq =>
    cases hq
    exact rx_stepC (ins := .invokevirtual 284) (len := 3) (i_p := 2) (M_p := rxM265) (d := rxCLF.2.2.2.1) (as := [.inr (3, (0, 480)), .inr (0, (10, 0))]) (t := []) (ct := rxCMU) hPX hF rfl hA hH0 hmc hms hd hdl (by decide +kernel) rfl rfl (by decide +kernel) (by decide +kernel) hQMU (by decide +kernel) rfl (Or.inl ⟨rfl, rfl, rfl⟩) (rxsLF_1 hP)
  | 2, hq =>
    cases hq
    exact absurd (show false = true from hus) Bool.false_ne_true
  | 3, hq =>
    cases hq
    exact rx_stepC (ins := .invokevirtual 297) (len := 3) (i_p := 4) (M_p := rxM266) (d := rxCLF.2.2.2.1) (as := [.inr (3, (0, 480)), .inr (0, (10, 0)), .inr (0, (11, 0))]) (t := []) (ct := rxCEM) hPX hF rfl hA hH0 hmc hms hd hdl (by decide +kernel) rfl rfl (by decide +kernel) (by decide +kernel) hQEM (by decide +kernel) rfl (Or.inl ⟨rfl, rfl, rfl⟩) (rxsLF_3 hP)
  | 4, hq =>
    cases hq
    exact absurd (show false = true from hus) Bool.false_ne_true
  | 5, hq =>
    cases hq
    exact absurd (show false = true from hus) Bool.false_ne_true
  | n + 6, hq => cases hq
theorem rxQLF {PX : State → Prop} {Dg : va_G} {A : Nat → Prop} {ad xa : Nat → Nat} {l : Launch} {X : (Nat → Int → Int) → Prop} (hPX : rx_PXOK rxNW A PX) (hsl : ∀ s : State, PX s → ∀ o idx n : Nat, rxSl o idx = some n → ∃ tx : String, vk_R (rxNm o) idx tx (ad n) s)
    (hX : ∀ S S_p : Nat → Int → Int, X S → bx_same rxL (bx_mdl rxCLF.2.2.1) S S_p → X S_p)
    (ih : ∀ (j2 : Nat) (ct2 : bx_Ct) (M2 : rx_Mt), ct2 ∈ rxCnE j2 → ct2.2.2.2.1 + 1 ≤ rxCLF.2.2.2.1 → rxT.2.2.2.2.2 j2 = some M2 → bx_Con rxG rxNW rxAO PX Dg rxL X vwCl A ad l M2 ct2) (hQMU : bx_ConP rxG rxNW rxAO PX Dg rxL X vwCl A ad l rxM265 rxCMU rxPMU rxPSMU) (hQEM : bx_ConP rxG rxNW rxAO PX Dg rxL X vwCl A ad l rxM266 rxCEM rxPEM rxPSEM) : bx_ConP rxG rxNW rxAO PX Dg rxL X vwCl A ad l rxM273 rxCLF rxPLF rxPSLF :=
  rxQof (xa := xa) (Cn := rxCnE) (f := 30000) (j := 273) (tab := rxYLF) (us := rxULF) hPX hsl hX ih rfl rxYcLF rxILF rxmLF
    (fun S0 ws r I0 I ht0 ht as he he1 hX0 hI0 hP hs ha => by
      have e := he.symm.trans (show bx_ent0 rxNP rxCLF.1 bx_I0 [] = some ([(0, 0), (0, 0), (0, 0), (0, 0), (0, 0), (0, 0), (0, 0), (0, 0), (0, 1), (0, 8), (0, 1000)], [], [.inr (3, (0, 480)), .inr (0, (8, 0)), .inr (0, (9, 0)), .inr (0, (10, 0))]) from rfl)
      cases e
      subst ha
      have h0 : r 0 = 0 := hs.1
      show rxILF_0 S0 _ S0 (r 8) (r 9) (r 10)
      refine ⟨rfl, ?_⟩
      simp only [List.map_cons, List.map_nil, bx_xv_ok h0]
      rfl)
    (fun S0 ws hP => rxuLF (xa := xa) hPX hX hQMU hQEM hP) (fun S0 ws hP => rxgCLF hP) (fun S0 ws hP => rxgELF hP)
end
section
noncomputable def rxTm (S S_p : Nat → Int → Int) : Prop := S_p 480 8 = S 480 8 ∧ S_p 480 9 = S 480 9 ∧ S_p 480 10 = S 480 10 ∧ S_p 480 11 = S 480 11 ∧ S_p 480 12 = S 480 12 ∧ S_p 480 14 = S 480 14
theorem rxTm_of {ms : List (Nat × Nat)} {S S_p : Nat → Int → Int} (h : bx_same rxL (bx_mdl ms) S S_p) (h1 : [8, 9, 10, 11, 12, 14].all (fun q => !(bx_mdl ms 12 q)) = true) : rxTm S S_p := by
  have hq : ∀ a : Nat, a ∈ [8, 9, 10, 11, 12, 14] → bx_mdl ms 12 a = false := fun a hm => by
    have := List.all_eq_true.mp h1 a hm
    rw [Bool.not_eq_true'] at this
    exact this
  refine ⟨?_, ?_, ?_, ?_, ?_, ?_⟩
  · exact rx_sameO h (p := 480) (j := 8) rfl (by omega) (hq 8 (by decide)) (by decide)
  · exact rx_sameO h (p := 480) (j := 9) rfl (by omega) (hq 9 (by decide)) (by decide)
  · exact rx_sameO h (p := 480) (j := 10) rfl (by omega) (hq 10 (by decide)) (by decide)
  · exact rx_sameO h (p := 480) (j := 11) rfl (by omega) (hq 11 (by decide)) (by decide)
  · exact rx_sameO h (p := 480) (j := 12) rfl (by omega) (hq 12 (by decide)) (by decide)
  · exact rx_sameO h (p := 480) (j := 14) rfl (by omega) (hq 14 (by decide)) (by decide)
theorem rxTm.tk {S S_p : Nat → Int → Int} (h : rxTm S S_p) (ht : rxTk S) : rxTk S_p := by
  obtain ⟨a1, a2, a3, a4, a5, a6⟩ := h
  unfold rxTk at ht ⊢
  rw [a1, a2, a3, a4, a5]
  exact ht
theorem rxTm.tr {S S1 S2 : Nat → Int → Int} (h : rxTm S S1) (h2 : rxTm S1 S2) : rxTm S S2 := ⟨h2.1.trans h.1, h2.2.1.trans h.2.1, h2.2.2.1.trans h.2.2.1, h2.2.2.2.1.trans h.2.2.2.1, h2.2.2.2.2.1.trans h.2.2.2.2.1, h2.2.2.2.2.2.trans h.2.2.2.2.2⟩
theorem rxTm_pu {S : Nat → Int → Int} {op a : Int} : rxTm S (rxPuE S op a) := by
  unfold rxPuE
  exact ⟨by simp [bx_up], by simp [bx_up], by simp [bx_up], by simp [bx_up], by simp [bx_up], by simp [bx_up]⟩
theorem rxTm_em {S : Nat → Int → Int} {op a : Int} : rxTm S (rxEmE S op a) := by
  unfold rxEmE
  exact ⟨by simp [bx_up], by simp [bx_up], by simp [bx_up], by simp [bx_up], by simp [bx_up], by simp [bx_up]⟩
theorem rxSt_ef {S0 S : Nat → Int → Int} {l : Int} (h : rxSt S0 S l) : rxEf S0 S 1 1 := fun first h0 hw => h.2.2.2.2.2.2.2.2.2 first h0 hw
theorem rxSt_sq {S0 S : Nat → Int → Int} {l : Int} (h : rxSt S0 S l) (hs : rxNoSq S0) : rxNoSq S := by
  obtain ⟨a1, a2, a3, a4, a5, a6, a7, a8, a9, a10⟩ := h
  intro i g0 g1
  rw [a7]
  exact hs i g0 (by omega)
theorem rxPt_nx {S S_p : Nat → Int → Int} (h : rxSm S S_p) (ht : rxTk S_p) (hz : rxPz S) (h0 : 0 ≤ S 480 24) (h4 : S 480 24 ≤ 400) (hs : S 480 18 + S 480 24 ≤ S_p 480 9) : rxPt S_p := by
  have k18 := h.1
  have k24 := h.2.1
  exact ⟨ht, h.pz hz h4, by omega, by omega⟩
theorem rxSqTop {S0 S : Nat → Int → Int} {b : Int} (hz : rxPz S0) (b0 : 0 ≤ b) (b1 : b < S0 480 24) (b2 : S0 489 b = 32) (b3 : ∀ j : Int, b < j → j < S0 480 24 → S0 489 j < 31) (h : rxSt S0 S 5) (ht : S 480 24 = 0 ∨ rxBd (S 489 (S 480 24 - 1)) < 5) : 1 ≤ S 480 24 ∧ S 489 (S 480 24 - 1) = 32 := by
  obtain ⟨a1, a2, a3, a4, a5, a6, a7, a8, a9, a10⟩ := h
  have hb : b < S 480 24 := by
    by_cases hb : S 480 24 ≤ b
    · have := a9 b hb b1
      rw [b2] at this
      exact absurd this (by decide)
    · omega
  refine ⟨by omega, ?_⟩
  rw [a7] at ht ⊢
  by_cases hq : S 480 24 - 1 = b
  · rw [hq]
    exact b2
  · have h3 := hz.2.2.1 b (S 480 24 - 1) b0 (by omega) (by omega) b2
    have h4 := b3 (S 480 24 - 1) (by omega) (by omega)
    have h5 := rxBd_cases (S0 489 (S 480 24 - 1))
    omega
theorem rxBrTop {S0 S : Nat → Int → Int} {b : Int} (b0 : 0 ≤ b) (b1 : b < S0 480 24) (b2 : 31 ≤ S0 489 b) (h : rxSt S0 S 1) (ht : S 480 24 = 0 ∨ rxBd (S 489 (S 480 24 - 1)) < 1) : 1 ≤ S 480 24 ∧ 31 ≤ S 489 (S 480 24 - 1) := by
  obtain ⟨a1, a2, a3, a4, a5, a6, a7, a8, a9, a10⟩ := h
  have hb : b < S 480 24 := by
    by_cases hb : S 480 24 ≤ b
    · have h1 := a9 b hb b1
      have h5 := rxBd_cases (S0 489 b)
      omega
    · omega
  have h5 := rxBd_cases (S 489 (S 480 24 - 1))
  omega
theorem rxNone {S0 S : Nat → Int → Int} (b3 : ∀ j : Int, 0 ≤ j → j < S0 480 24 → S0 489 j < 31) (h : rxSt S0 S 1) (ht : S 480 24 = 0 ∨ rxBd (S 489 (S 480 24 - 1)) < 1) : S 480 24 = 0 := by
  obtain ⟨a1, a2, a3, a4, a5, a6, a7, a8, a9, a10⟩ := h
  rcases ht with ht | ht
  · exact ht
  · by_cases hq : S 480 24 = 0
    · exact hq
    · have h4 := b3 (S 480 24 - 1) (by omega) (by omega)
      rw [a7] at ht
      have h5 := rxBd_cases (S0 489 (S 480 24 - 1))
      omega
theorem rxOpen1 {S : Nat → Int → Int} (h : rxPz S) (h1 : 1 ≤ S 480 24) (ht : 31 ≤ S 489 (S 480 24 - 1)) : 1 ≤ S 480 25 := by
  have e := rx_cnt_succ (f := rxIsBr S) (n := S 480 24 - 1) (by omega)
  rw [show S 480 24 - 1 + 1 = S 480 24 by omega] at e
  have h2 := h.2.1
  have e2 : rxIsBr S (S 480 24 - 1) = 0 := by
    unfold rxIsBr
    rw [if_pos ht]
  rw [if_neg (by omega)] at e
  omega
theorem rxPopB {S : Nat → Int → Int} (h : rxPz S) (h1 : 1 ≤ S 480 24) (ht : 31 ≤ S 489 (S 480 24 - 1)) : rxPz (bx_up (bx_up S 480 24 (S 480 24 - 1)) 480 25 (S 480 25 - 1)) ∧ rxEf S (bx_up (bx_up S 480 24 (S 480 24 - 1)) 480 25 (S 480 25 - 1)) 1 1 ∧ (rxNoSq S → rxNoSq (bx_up (bx_up S 480 24 (S 480 24 - 1)) 480 25 (S 480 25 - 1))) := by
  refine ⟨rxPz_pop h h1 (by simp [bx_up]) (by simp [bx_up]) (funext fun x => by simp [bx_up]) (funext fun x => by simp [bx_up]) (by rw [if_pos ht]; simp [bx_up]), fun first f0 hw => ⟨rxWz_pop hw f0 h1 (by simp [bx_up]) (by simp [bx_up]) (funext fun x => by simp [bx_up]) (funext fun x => by simp [bx_up]) (funext fun x => by simp [bx_up]) (funext fun x => by simp [bx_up]) (fun q => by rcases q with q | q <;> omega) (by rw [if_neg (by omega)]; omega), fun k _ _ => ⟨by simp [bx_up], by simp [bx_up]⟩⟩, fun hs i g0 g1 => ?_⟩
  rw [show bx_up (bx_up S 480 24 (S 480 24 - 1)) 480 25 (S 480 25 - 1) 480 24 = S 480 24 - 1 by simp [bx_up]] at g1
  rw [show bx_up (bx_up S 480 24 (S 480 24 - 1)) 480 25 (S 480 25 - 1) 489 i = S 489 i by simp [bx_up]]
  exact hs i g0 (by omega)
theorem rxAo {S : Nat → Int → Int} {op : Int} (h : rxPz S) (hp : 0 ≤ S 480 24) (hj : rxJmp op) (hs : rxNoSq S) : rxPz (rxEmE (rxPuE S op (S 480 18)) op 0) ∧ rxEf S (rxEmE (rxPuE S op (S 480 18)) op 0) 1 0 ∧ rxNoSq (rxEmE (rxPuE S op (S 480 18)) op 0) := by
  have ho : 29 ≤ op ∧ op ≤ 30 := by rcases hj with q | q <;> omega
  have e18 : rxEmE (rxPuE S op (S 480 18)) op 0 480 18 = S 480 18 + 1 := by
    unfold rxEmE rxPuE
    simp [bx_up]
  have e24 : rxEmE (rxPuE S op (S 480 18)) op 0 480 24 = S 480 24 + 1 := by
    unfold rxEmE rxPuE
    simp [bx_up]
  have e25 : rxEmE (rxPuE S op (S 480 18)) op 0 480 25 = S 480 25 := by
    unfold rxEmE rxPuE
    simp [bx_up]
  have e487 : ∀ i : Int, i ≠ S 480 18 → rxEmE (rxPuE S op (S 480 18)) op 0 487 i = S 487 i := fun i hi => by
    unfold rxEmE rxPuE
    simp [bx_up, hi]
  have e488 : ∀ i : Int, i ≠ S 480 18 → rxEmE (rxPuE S op (S 480 18)) op 0 488 i = S 488 i := fun i hi => by
    unfold rxEmE rxPuE
    simp [bx_up, hi]
  have e489 : ∀ i : Int, i ≠ S 480 24 → rxEmE (rxPuE S op (S 480 18)) op 0 489 i = S 489 i := fun i hi => by
    unfold rxEmE rxPuE
    simp [bx_up, hi]
  have e490 : ∀ i : Int, i ≠ S 480 24 → rxEmE (rxPuE S op (S 480 18)) op 0 490 i = S 490 i := fun i hi => by
    unfold rxEmE rxPuE
    simp [bx_up, hi]
  have k487 : rxEmE (rxPuE S op (S 480 18)) op 0 487 (S 480 18) = op := by
    unfold rxEmE rxPuE
    simp [bx_up]
  have k489 : rxEmE (rxPuE S op (S 480 18)) op 0 489 (S 480 24) = op := by
    unfold rxEmE rxPuE
    simp [bx_up]
  have k490 : rxEmE (rxPuE S op (S 480 18)) op 0 490 (S 480 24) = S 480 18 := by
    unfold rxEmE rxPuE
    simp [bx_up]
  refine ⟨rxPz_push (op := op) h hp (by omega) e24 e489 e490 k489 (by omega) (by rw [if_neg (by omega), e25]; omega) (fun _ => by rw [k490, e18]; omega) (Or.inr (Or.inr hs)), fun first f0 hw => ⟨rxWz_ao hw f0 hp e18 e24 e487 e488 e489 e490 k487 k489 k490 hj, fun k k0 k1 => ?_⟩, fun i g0 g1 => ?_⟩
  · have hf : first ≤ S 480 18 := by
      obtain ⟨d, a0, a1, -⟩ := hw
      exact a1
    exact ⟨e487 k (by omega), e488 k (by omega)⟩
  · rw [e24] at g1
    by_cases hi : i = S 480 24
    · rw [hi, k489]
      omega
    · rw [e489 i hi]
      exact hs i g0 (by omega)
end
section
noncomputable def rxCIS : bx_Ct := ([(3, (1, 480, 0)), (0, (0, 0, 127))], some (0, (0, 0, 1)), [], 0, [])
noncomputable def rxIIS_0 (S0 : Nat → Int → Int) (ws : List Int) (S : Nat → Int → Int) (x : Int) : Prop := S = S0 ∧ ws = [480, x]
noncomputable def rxmIS_0 (S0 : Nat → Int → Int) (ws : List Int) (S : Nat → Int → Int) (x : Int) : Nat := 100
noncomputable def rxzIS_0 : rx_Z := ([(0, 0), (0, 0), (0, 0), (0, 0), (0, 0), (0, 0), (0, 0), (0, 0), (0, 127)], [], [], 0, 0, 0, [(0, .inr (3, (0, 480))), (1, .inr (0, (8, 0)))], [])
noncomputable def rxeIS_0_0 : rx_End × List (Nat × Int × Int) := (([(0, 0), (0, 0), (0, 0), (0, 0), (0, 0), (0, 0), (0, 0), (0, 0), (0, 127), (3, 3), (0, 127)], [(2, (10, 0), (8, 0))], [(((0, 0), 1851192626986356799832820811818326617396875588472066220482363392000000), .inr (1, (10, 0))), (((0, 480), 12), .inr (1, (10, 0))), (((0, 0), 1851192626986356799632114105031551009123054124018230966928539648000000), .inr (0, (9, 0))), (((0, 480), 11), .inr (0, (9, 0)))], some (.inr (0, (0, 1)))), [])
noncomputable def rxeIS_0_1 : rx_End × List (Nat × Int × Int) := (([(0, 0), (0, 0), (0, 0), (0, 0), (0, 0), (0, 0), (0, 0), (0, 0), (0, 127), (3, 3), ((-9223372036854775808), 9223372036854775807)], [(3, (10, 0), (8, 0))], [(((0, 0), 1851192626986356799832820811818326617396875588472066220482363392000000), .inr (1, (10, 0))), (((0, 480), 12), .inr (1, (10, 0))), (((0, 0), 1851192626986356799632114105031551009123054124018230966928539648000000), .inr (0, (9, 0))), (((0, 480), 11), .inr (0, (9, 0)))], some (.inr (0, (0, 0)))), [])
noncomputable def rxeIS_0_2 : rx_End × List (Nat × Int × Int) := (([(0, 0), (0, 0), (0, 0), (0, 0), (0, 0), (0, 0), (0, 0), (0, 0), (0, 127), (0, 2)], [(3, (9, 0), (0, 3))], [(((0, 0), 1851192626986356799632114105031551009123054124018230966928539648000000), .inr (0, (9, 0))), (((0, 480), 11), .inr (0, (9, 0)))], some (.inr (0, (0, 0)))), [])
noncomputable def rxYIS : List bx_HE := [(rxzIS_0, [], [rxeIS_0_0, rxeIS_0_1, rxeIS_0_2])]
noncomputable def rxUIS (q : bx_HE) : Bool := false
noncomputable def rxYBIS : bx_B := (rxV, rxNP, rxDmf, bx_mdH rxCIS.2.2.1)
set_option maxRecDepth 100000 in
theorem rxYcIS : bx_chkH rxYBIS rxM269 rxCIS rxYIS (rxUIS, fun cut z => rx_ex2 (rxCT rxYBIS rxCnE) cut 30000 rxCIS.2.2.2.1 269 z) = true := by decide +kernel
noncomputable def rxIIS (S0 : Nat → Int → Int) (ws : List Int) (i : Nat) : bx_SP := fun S r => match i with | 0 => rxIIS_0 S0 ws S (r 8) | _ => False
noncomputable def rxmIS (S0 : Nat → Int → Int) (ws : List Int) (i : Nat) (S : Nat → Int → Int) (r : Nat → Int) : Nat := match i with | 0 => rxmIS_0 S0 ws S (r 8) | _ => 0
noncomputable def rxPIS (S0 : Nat → Int → Int) (ws : List Int) : Prop := True
noncomputable def rxPSIS (S0 : Nat → Int → Int) (ws : List Int) (S : Nat → Int → Int) (w : Option Int) : Prop := S = S0 ∧ ∃ x r : Int, ws = [480, x] ∧ w = some r ∧ (r = 1 → S 480 11 = 3 ∧ S 480 12 = x)
theorem rxdIS_0_0 {S0 : Nat → Int → Int} {ws : List Int} {S : Nat → Int → Int} {x x9 x10 : Int} (hP : rxPIS S0 ws) (hin : bx_same rxL (bx_mdl rxCIS.2.2.1) S0 S) (hin2 : bx_same rxL (bx_mdl rxCIS.2.2.1) S S) (I0 : bx_Inv rxL S) (I1 : bx_Inv rxL S) (hinv : rxIIS_0 S0 ws S x) (l8 : 0 ≤ x) (u8 : x ≤ 127) (l9 : 3 ≤ x9) (u9 : x9 ≤ 3) (l10 : 0 ≤ x10) (u10 : x10 ≤ 127) (f0 : x10 = x) (e1 : S 480 11 = x9) (e0 : S 480 12 = x10) : (True) ∧ rxPSIS S0 ws S (some 1) := by
  obtain ⟨rfl, hw⟩ := hinv
  exact ⟨trivial, rfl, x, _, hw, rfl, fun q => by omega⟩
theorem rxfIS_0_0 {X : (Nat → Int → Int) → Prop} {S0 : Nat → Int → Int} {ws : List Int} (hP : rxPIS S0 ws) : bx_obE rxL X S0 rxCIS.2.2.1 (rxIIS S0 ws) (rxPSIS S0 ws) 0 rxzIS_0 rxeIS_0_0 := by
  intro S S_p r r_p hinv hX hin hsm_ hseg
  obtain ⟨I0, I1, h0_, hr_, b_, f_, d_⟩ := bx_cl (evs := [(0, (0, 480), (0, 12), .inr (1, (10, 0))), (0, (0, 480), (0, 11), .inr (0, (9, 0)))]) (fvs := [(2, (10, 0), (8, 0), (0, 0))]) hseg (by decide +kernel) (by decide +kernel)
  have hinv : rxIIS_0 S0 ws S (r 8) := hinv
  rw [← hr_ 8 (by decide)] at hinv
  obtain ⟨⟨l8, u8⟩, ⟨l9, u9⟩, ⟨l10, u10⟩, -⟩ := b_
  obtain ⟨f0, -⟩ := f_
  obtain ⟨e0, ⟨e1, w_⟩⟩ := d_
  subst w_
  have g := rxdIS_0_0 hP hin hsm_ I0 I1 hinv l8 u8 l9 u9 l10 u10 f0 e1 e0
  refine ⟨bx_narP_ok (l := []) g.1, ?_⟩
  show rxPSIS S0 ws S_p (some (bx_num r_p (.inr (0, (0, 1)))))
  rw [bx_xv_ok h0_]
  exact g.2
theorem rxdIS_0_1 {S0 : Nat → Int → Int} {ws : List Int} {S : Nat → Int → Int} {x x9 x10 : Int} (hP : rxPIS S0 ws) (hin : bx_same rxL (bx_mdl rxCIS.2.2.1) S0 S) (hin2 : bx_same rxL (bx_mdl rxCIS.2.2.1) S S) (I0 : bx_Inv rxL S) (I1 : bx_Inv rxL S) (hinv : rxIIS_0 S0 ws S x) (l8 : 0 ≤ x) (u8 : x ≤ 127) (l9 : 3 ≤ x9) (u9 : x9 ≤ 3) (l10 : (-9223372036854775808) ≤ x10) (u10 : x10 ≤ 9223372036854775807) (f0 : x10 ≠ x) (e1 : S 480 11 = x9) (e0 : S 480 12 = x10) : (True) ∧ rxPSIS S0 ws S (some 0) := by
  obtain ⟨rfl, hw⟩ := hinv
  exact ⟨trivial, rfl, x, _, hw, rfl, fun q => by omega⟩
theorem rxfIS_0_1 {X : (Nat → Int → Int) → Prop} {S0 : Nat → Int → Int} {ws : List Int} (hP : rxPIS S0 ws) : bx_obE rxL X S0 rxCIS.2.2.1 (rxIIS S0 ws) (rxPSIS S0 ws) 0 rxzIS_0 rxeIS_0_1 := by
  intro S S_p r r_p hinv hX hin hsm_ hseg
  obtain ⟨I0, I1, h0_, hr_, b_, f_, d_⟩ := bx_cl (evs := [(0, (0, 480), (0, 12), .inr (1, (10, 0))), (0, (0, 480), (0, 11), .inr (0, (9, 0)))]) (fvs := [(3, (10, 0), (8, 0), (0, 0))]) hseg (by decide +kernel) (by decide +kernel)
  have hinv : rxIIS_0 S0 ws S (r 8) := hinv
  rw [← hr_ 8 (by decide)] at hinv
  obtain ⟨⟨l8, u8⟩, ⟨l9, u9⟩, ⟨l10, u10⟩, -⟩ := b_
  obtain ⟨f0, -⟩ := f_
  obtain ⟨e0, ⟨e1, w_⟩⟩ := d_
  subst w_
  have g := rxdIS_0_1 hP hin hsm_ I0 I1 hinv l8 u8 l9 u9 l10 u10 f0 e1 e0
  refine ⟨bx_narP_ok (l := []) g.1, ?_⟩
  show rxPSIS S0 ws S_p (some (bx_num r_p (.inr (0, (0, 0)))))
  rw [bx_xv_ok h0_]
  exact g.2
theorem rxdIS_0_2 {S0 : Nat → Int → Int} {ws : List Int} {S : Nat → Int → Int} {x x9 : Int} (hP : rxPIS S0 ws) (hin : bx_same rxL (bx_mdl rxCIS.2.2.1) S0 S) (hin2 : bx_same rxL (bx_mdl rxCIS.2.2.1) S S) (I0 : bx_Inv rxL S) (I1 : bx_Inv rxL S) (hinv : rxIIS_0 S0 ws S x) (l8 : 0 ≤ x) (u8 : x ≤ 127) (l9 : 0 ≤ x9) (u9 : x9 ≤ 2) (f0 : x9 ≠ 3) (e0 : S 480 11 = x9) : (True) ∧ rxPSIS S0 ws S (some 0) := by
  obtain ⟨rfl, hw⟩ := hinv
  exact ⟨trivial, rfl, x, _, hw, rfl, fun q => by omega⟩
theorem rxfIS_0_2 {X : (Nat → Int → Int) → Prop} {S0 : Nat → Int → Int} {ws : List Int} (hP : rxPIS S0 ws) : bx_obE rxL X S0 rxCIS.2.2.1 (rxIIS S0 ws) (rxPSIS S0 ws) 0 rxzIS_0 rxeIS_0_2 := by
  intro S S_p r r_p hinv hX hin hsm_ hseg
  obtain ⟨I0, I1, h0_, hr_, b_, f_, d_⟩ := bx_cl (evs := [(0, (0, 480), (0, 11), .inr (0, (9, 0)))]) (fvs := [(3, (9, 0), (0, 3), (0, 0))]) hseg (by decide +kernel) (by decide +kernel)
  have hinv : rxIIS_0 S0 ws S (r 8) := hinv
  rw [← hr_ 8 (by decide)] at hinv
  obtain ⟨⟨l8, u8⟩, ⟨l9, u9⟩, -⟩ := b_
  obtain ⟨f0, -⟩ := f_
  obtain ⟨e0, w_⟩ := d_
  subst w_
  have g := rxdIS_0_2 hP hin hsm_ I0 I1 hinv l8 u8 l9 u9 f0 e0
  refine ⟨bx_narP_ok (l := []) g.1, ?_⟩
  show rxPSIS S0 ws S_p (some (bx_num r_p (.inr (0, (0, 0)))))
  rw [bx_xv_ok h0_]
  exact g.2
theorem rxgCIS {X : (Nat → Int → Int) → Prop} {S0 : Nat → Int → Int} {ws : List Int} (hP : rxPIS S0 ws) : bx_allI (fun i q => rxUIS q = true ∨ bx_allP (fun o => bx_obC rxL X S0 rxCIS.2.2.1 (rxIIS S0 ws) (rxmIS S0 ws) i q.1 o) q.2.1) 0 rxYIS := ⟨Or.inr trivial, trivial⟩
theorem rxgEIS {X : (Nat → Int → Int) → Prop} {S0 : Nat → Int → Int} {ws : List Int} (hP : rxPIS S0 ws) : bx_allI (fun i q => rxUIS q = true ∨ bx_allP (fun E => bx_obE rxL X S0 rxCIS.2.2.1 (rxIIS S0 ws) (rxPSIS S0 ws) i q.1 E) q.2.2) 0 rxYIS := ⟨Or.inr ⟨rxfIS_0_0 hP, rxfIS_0_1 hP, rxfIS_0_2 hP, trivial⟩, trivial⟩
theorem rxQIS {PX : State → Prop} {Dg : va_G} {A : Nat → Prop} {ad xa : Nat → Nat} {l : Launch} {X : (Nat → Int → Int) → Prop} (hPX : rx_PXOK rxNW A PX) (hsl : ∀ s : State, PX s → ∀ o idx n : Nat, rxSl o idx = some n → ∃ tx : String, vk_R (rxNm o) idx tx (ad n) s)
    (hX : ∀ S S_p : Nat → Int → Int, X S → bx_same rxL (bx_mdl rxCIS.2.2.1) S S_p → X S_p)
    (ih : ∀ (j2 : Nat) (ct2 : bx_Ct) (M2 : rx_Mt), ct2 ∈ rxCnE j2 → ct2.2.2.2.1 + 1 ≤ rxCIS.2.2.2.1 → rxT.2.2.2.2.2 j2 = some M2 → bx_Con rxG rxNW rxAO PX Dg rxL X vwCl A ad l M2 ct2) : bx_ConP rxG rxNW rxAO PX Dg rxL X vwCl A ad l rxM269 rxCIS rxPIS rxPSIS :=
  rxQof (xa := xa) (Cn := rxCnE) (f := 30000) (j := 269) (tab := rxYIS) (us := rxUIS) hPX hsl hX ih rfl rxYcIS rxIIS rxmIS
    (fun S0 ws r I0 I ht0 ht as he he1 hX0 hI0 hP hs ha => by
      have e := he.symm.trans (show bx_ent0 rxNP rxCIS.1 bx_I0 [] = some ([(0, 0), (0, 0), (0, 0), (0, 0), (0, 0), (0, 0), (0, 0), (0, 0), (0, 127)], [], [.inr (3, (0, 480)), .inr (0, (8, 0))]) from rfl)
      cases e
      subst ha
      have h0 : r 0 = 0 := hs.1
      show rxIIS_0 S0 _ S0 (r 8)
      refine ⟨rfl, ?_⟩
      simp only [List.map_cons, List.map_nil, bx_xv_ok h0]
      rfl)
    (fun S0 ws hP => fun i q hq hus => absurd (show false = true from hus) Bool.false_ne_true) (fun S0 ws hP => rxgCIS hP) (fun S0 ws hP => rxgEIS hP)
end
