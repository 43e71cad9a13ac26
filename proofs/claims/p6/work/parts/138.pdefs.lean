/-! THE PARSER: what its rows hold, for contracts by hand. nOp 487, nArg 488, pile 489, pileAt 490; nCode 18, piled 24, opened 25, bad 14 -/
def rxIsBr (S : Nat → Int → Int) (x : Int) : Int := if 31 ≤ S 489 x then 0 else -1
def rxIsBin (S : Nat → Int → Int) (x : Int) : Int := if 20 ≤ S 489 x ∧ S 489 x ≤ 27 then 0 else -1
/-- how many of the pile's first n are two-sided operations -/
def rxNb (S : Nat → Int → Int) (n : Int) : Int := (rx_cnt (rxIsBin S) n.toNat : Int)
def rxJmp (v : Int) : Prop := v = 29 ∨ v = 30
/-- bounds: what is piled and what is coded; where jumps lie; brackets counted; within a square bracket sums alone -/
def rxPz (S : Nat → Int → Int) : Prop :=
  (∀ i : Int, 0 ≤ i → i < S 480 24 → rxJmp (S 489 i) → S 490 i < S 480 18) ∧
  S 480 25 = (rx_cnt (rxIsBr S) (S 480 24).toNat : Int) ∧
  (∀ i j : Int, 0 ≤ i → i < j → j < S 480 24 → S 489 i = 32 → (20 ≤ S 489 j ∧ S 489 j ≤ 24) ∨ S 489 j = 32) ∧
  (∀ i : Int, 0 ≤ i → i < S 480 24 → 20 ≤ S 489 i)
def rxNoSq (S : Nat → Int → Int) : Prop := ∀ i : Int, 0 ≤ i → i < S 480 24 → S 489 i ≠ 32
/-- one instruction in its place, by the depths d -/
def rxIok (d : Int → Int) (k op : Int) (J : Prop) : Prop :=
  (op < 20 → 0 ≤ op ∧ op ≤ 8 ∧ d (k + 1) = d k + 1) ∧ (20 ≤ op → op ≤ 27 → 2 ≤ d k ∧ d (k + 1) = d k - 1) ∧ (op = 28 → 1 ≤ d k ∧ d (k + 1) = d k) ∧ (rxJmp op → 1 ≤ d k ∧ d (k + 1) = d k - 1 ∧ J) ∧ op ≤ 30
def rxJok (d : Int → Int) (k arg last : Int) : Prop := k < arg ∧ arg ≤ last ∧ d arg = d k
/-- the code from first on, with jumps that are still open; c: how many values stand beside those that operations wait with -/
def rxWz (S : Nat → Int → Int) (first c : Int) : Prop := ∃ d : Int → Int, d first = 0 ∧ first ≤ S 480 18 ∧
  (∀ k : Int, first ≤ k → k ≤ S 480 18 → 0 ≤ d k ∧ d k ≤ k - first) ∧
  (∀ k : Int, first ≤ k → k < S 480 18 → rxIok d k (S 487 k) (rxJok d k (S 488 k) (S 480 18) ∨ ∃ i : Int, 0 ≤ i ∧ i < S 480 24 ∧ rxJmp (S 489 i) ∧ S 490 i = k)) ∧
  (∀ i : Int, 0 ≤ i → i < S 480 24 → rxJmp (S 489 i) → first ≤ S 490 i ∧ S 490 i < S 480 18 ∧ rxJmp (S 487 (S 490 i)) ∧ d (S 490 i) = rxNb S i + 1) ∧
  d (S 480 18) = rxNb S (S 480 24) + c
/-- code that is whole, in general: what op and arg are given by -/
def rxSeg (op arg : Int → Int) (first last : Int) : Prop := ∃ d : Int → Int, d first = 0 ∧ (∀ k : Int, first ≤ k → k ≤ last → 0 ≤ d k ∧ d k ≤ k - first) ∧ ∀ k : Int, first ≤ k → k < last → rxIok d k (op k) (rxJok d k (arg k) last)
theorem rxNb_cg {S S_p : Nat → Int → Int} {n m : Int} (h : ∀ i : Int, 0 ≤ i → i < m → S_p 489 i = S 489 i) (hn : n ≤ m) : rxNb S_p n = rxNb S n := by
  unfold rxNb
  rw [rx_cnt_congr (f := rxIsBin S_p) (g := rxIsBin S) fun x a b => by
    unfold rxIsBin
    rw [h x a (by omega)]]
theorem rxBr_cg {S S_p : Nat → Int → Int} {n : Nat} {m : Int} (h : ∀ i : Int, 0 ≤ i → i < m → S_p 489 i = S 489 i) (hn : (n : Int) ≤ m) : rx_cnt (rxIsBr S_p) n = rx_cnt (rxIsBr S) n :=
  rx_cnt_congr fun x a b => by
    unfold rxIsBr
    rw [h x a (by omega)]
theorem rxNb_succ {S : Nat → Int → Int} {n : Int} (h : 0 ≤ n) : rxNb S (n + 1) = rxNb S n + (if 20 ≤ S 489 n ∧ S 489 n ≤ 27 then 1 else 0) := by
  unfold rxNb
  rw [show (n + 1).toNat = n.toNat + 1 by omega]
  show ((rx_cnt (rxIsBin S) n.toNat + (if rxIsBin S ((n.toNat : Nat) : Int) = -1 then 0 else 1) : Nat) : Int) = _
  rw [show ((n.toNat : Nat) : Int) = n by omega]
  unfold rxIsBin
  by_cases hc : 20 ≤ S 489 n ∧ S 489 n ≤ 27
  · rw [if_pos hc, if_pos hc, if_neg (by omega)]
    omega
  · rw [if_neg hc, if_neg hc, if_pos rfl]
    omega
theorem rxNb_nn {S : Nat → Int → Int} {n : Int} : 0 ≤ rxNb S n := Int.natCast_nonneg _
/-- only tokens, or nothing that counts, is other -/
theorem rxPz_cg {S S_p : Nat → Int → Int} (h : rxPz S) (h18 : S_p 480 18 = S 480 18) (h24 : S_p 480 24 = S 480 24) (h25 : S_p 480 25 = S 480 25) (h489 : ∀ i : Int, 0 ≤ i → i < S 480 24 → S_p 489 i = S 489 i) (h490 : ∀ i : Int, 0 ≤ i → i < S 480 24 → S_p 490 i = S 490 i) : rxPz S_p := by
  obtain ⟨a1, a2, a3, a4⟩ := h
  refine ⟨fun i g0 g1 g2 => ?_, ?_, fun i j g0 g1 g2 g3 => ?_, fun i g0 g1 => ?_⟩
  · rw [h24] at g1
    rw [h489 i g0 g1] at g2
    rw [h490 i g0 g1, h18]
    exact a1 i g0 g1 g2
  · rw [h25, a2, h24, rxBr_cg (m := ((S 480 24).toNat : Int)) (fun i g0 g1 => h489 i g0 (by omega)) (by omega)]
  · rw [h24] at g2
    rw [h489 i g0 (by omega)] at g3
    rw [h489 j (by omega) g2]
    exact a3 i j g0 g1 g2 g3
  · rw [h24] at g1
    rw [h489 i g0 g1]
    exact a4 i g0 g1
theorem rxWz_cg {S S_p : Nat → Int → Int} {first c : Int} (h : rxWz S first c) (h0 : 0 ≤ first) (h18 : S_p 480 18 = S 480 18) (h24 : S_p 480 24 = S 480 24) (h489 : ∀ i : Int, 0 ≤ i → i < S 480 24 → S_p 489 i = S 489 i) (h490 : ∀ i : Int, 0 ≤ i → i < S 480 24 → S_p 490 i = S 490 i) (h487 : ∀ i : Int, 0 ≤ i → i < S 480 18 → S_p 487 i = S 487 i) (h488 : ∀ i : Int, 0 ≤ i → i < S 480 18 → S_p 488 i = S 488 i) : rxWz S_p first c := by
  obtain ⟨d, a0, a1, a2, a3, a4, a5⟩ := h
  refine ⟨d, a0, by omega, fun k g0 g1 => a2 k g0 (by omega), fun k g0 g1 => ?_, fun i g0 g1 g2 => ?_, ?_⟩
  · rw [h18] at g1
    rw [h487 k (by omega) g1, h488 k (by omega) g1, h18]
    obtain ⟨b1, b2, b3, b4, b5⟩ := a3 k g0 g1
    refine ⟨b1, b2, b3, fun hao => ?_, b5⟩
    obtain ⟨c1, c2, c3⟩ := b4 hao
    refine ⟨c1, c2, c3.imp id fun ⟨i, i0, i1, i2, i3⟩ => ⟨i, i0, by omega, ?_, ?_⟩⟩
    · rw [h489 i i0 i1]
      exact i2
    · rw [h490 i i0 i1]
      exact i3
  · rw [h24] at g1
    rw [h489 i g0 g1] at g2
    obtain ⟨b1, b2, b3, b4⟩ := a4 i g0 g1 g2
    rw [h490 i g0 g1, h18, h487 _ (by omega) b2, rxNb_cg (m := S 480 24) h489 (by omega)]
    exact ⟨b1, b2, b3, b4⟩
  · rw [h18, h24, rxNb_cg (m := S 480 24) h489 (by omega)]
    exact a5
/-- an instruction comes: dn is the depth behind it -/
theorem rxWz_emit {S S_p : Nat → Int → Int} {first c c' op : Int} (h : rxWz S first c) (h0 : 0 ≤ first) (h18 : S_p 480 18 = S 480 18 + 1) (h24 : S_p 480 24 = S 480 24) (h489 : S_p 489 = S 489) (h490 : S_p 490 = S 490) (h487 : ∀ i : Int, i ≠ S 480 18 → S_p 487 i = S 487 i) (h488 : ∀ i : Int, i ≠ S 480 18 → S_p 488 i = S 488 i) (hop : S_p 487 (S 480 18) = op)
    (hi : ∀ d : Int → Int, d (S 480 18) = rxNb S (S 480 24) + c → d (S 480 18 + 1) = rxNb S (S 480 24) + c' → rxIok d (S 480 18) op (∃ i : Int, 0 ≤ i ∧ i < S 480 24 ∧ rxJmp (S 489 i) ∧ S 490 i = S 480 18)) (hc : c' ≤ c + 1) (hc0 : 0 ≤ rxNb S (S 480 24) + c') : rxWz S_p first c' := by
  obtain ⟨d, a0, a1, a2, a3, a4, a5⟩ := h
  have ne : ∀ k : Int, k ≤ S 480 18 → (fun x => if x = S 480 18 + 1 then rxNb S (S 480 24) + c' else d x) k = d k := fun k hk => if_neg (by omega)
  have hat : (fun x => if x = S 480 18 + 1 then rxNb S (S 480 24) + c' else d x) (S 480 18 + 1) = rxNb S (S 480 24) + c' := if_pos rfl
  have hq : ∀ n, rxNb S_p n = rxNb S n := fun n => rxNb_cg (m := n) (fun i _ _ => by rw [h489]) (by omega)
  have hb := a2 (S 480 18) a1 (by omega)
  refine ⟨fun x => if x = S 480 18 + 1 then rxNb S (S 480 24) + c' else d x, ?_, by omega, fun k g0 g1 => ?_, fun k g0 g1 => ?_, fun i g0 g1 g2 => ?_, ?_⟩
  · rw [ne first a1]
    exact a0
  · by_cases hk : k = S 480 18 + 1
    · subst hk
      rw [hat]
      omega
    · rw [ne k (by omega)]
      exact a2 k g0 (by omega)
  · by_cases hk : k = S 480 18
    · subst hk
      have e1 := hi (fun x => if x = S 480 18 + 1 then rxNb S (S 480 24) + c' else d x) ((ne _ (by omega)).trans a5) hat
      rw [hop]
      obtain ⟨b1, b2, b3, b4, b5⟩ := e1
      refine ⟨b1, b2, b3, fun hao => ?_, b5⟩
      obtain ⟨c1, c2, i, i0, i1, i2, i3⟩ := b4 hao
      exact ⟨c1, c2, Or.inr ⟨i, i0, by omega, by rw [h489]; exact i2, by rw [h490]; exact i3⟩⟩
    · rw [h487 k hk, h488 k hk, h18]
      obtain ⟨b1, b2, b3, b4, b5⟩ := a3 k g0 (by omega)
      unfold rxIok
      rw [ne k (by omega), ne (k + 1) (by omega)]
      refine ⟨b1, b2, b3, fun hao => ?_, b5⟩
      obtain ⟨c1, c2, c3⟩ := b4 hao
      refine ⟨c1, c2, c3.imp (fun ⟨j1, j2, j3⟩ => ⟨j1, by omega, ?_⟩) fun ⟨i, i0, i1, i2, i3⟩ => ⟨i, i0, by omega, by rw [h489]; exact i2, by rw [h490]; exact i3⟩⟩
      rw [ne _ (by omega), ne _ (by omega)]
      exact j3
  · rw [h24] at g1
    rw [h489] at g2
    obtain ⟨b1, b2, b3, b4⟩ := a4 i g0 g1 g2
    rw [h490, h18, h487 _ (by omega), hq, ne _ (by omega)]
    exact ⟨b1, by omega, b3, b4⟩
  · rw [h18, h24, hq]
    exact hat
theorem rxWz_push {S S_p : Nat → Int → Int} {first c c' op : Int} (h : rxWz S first c) (h0 : 0 ≤ first) (hp : 0 ≤ S 480 24) (h18 : S_p 480 18 = S 480 18) (h24 : S_p 480 24 = S 480 24 + 1) (h487 : S_p 487 = S 487) (h488 : S_p 488 = S 488) (h489 : ∀ i : Int, i ≠ S 480 24 → S_p 489 i = S 489 i) (h490 : ∀ i : Int, i ≠ S 480 24 → S_p 490 i = S 490 i) (hop : S_p 489 (S 480 24) = op)
    (hj : ¬ rxJmp op) (hc : c' = c - (if 20 ≤ op ∧ op ≤ 27 then 1 else 0)) : rxWz S_p first c' := by
  obtain ⟨d, a0, a1, a2, a3, a4, a5⟩ := h
  have hq : ∀ n, n ≤ S 480 24 → rxNb S_p n = rxNb S n := fun n hn => rxNb_cg (m := n) (fun i _ _ => h489 i (by omega)) (by omega)
  refine ⟨d, a0, by omega, fun k g0 g1 => a2 k g0 (by omega), fun k g0 g1 => ?_, fun i g0 g1 g2 => ?_, ?_⟩
  · rw [h18] at g1
    rw [h487, h488, h18]
    obtain ⟨b1, b2, b3, b4, b5⟩ := a3 k g0 g1
    refine ⟨b1, b2, b3, fun hao => ?_, b5⟩
    obtain ⟨c1, c2, c3⟩ := b4 hao
    refine ⟨c1, c2, c3.imp id fun ⟨i, i0, i1, i2, i3⟩ => ⟨i, i0, by omega, ?_, ?_⟩⟩
    · rw [h489 i (by omega)]
      exact i2
    · rw [h490 i (by omega)]
      exact i3
  · have hne : i ≠ S 480 24 := fun q => by
      rw [q, hop] at g2
      exact hj g2
    rw [h489 i hne] at g2
    obtain ⟨b1, b2, b3, b4⟩ := a4 i g0 (by omega) g2
    rw [h490 i hne, h18, h487, hq i (by omega)]
    exact ⟨b1, b2, b3, b4⟩
  · rw [h18, h24, rxNb_succ hp, hq _ (by omega), hop, a5, hc]
    omega
theorem rxWz_pop {S S_p : Nat → Int → Int} {first c c' : Int} (h : rxWz S first c) (h0 : 0 ≤ first) (hp : 1 ≤ S 480 24) (h18 : S_p 480 18 = S 480 18) (h24 : S_p 480 24 = S 480 24 - 1) (h487 : S_p 487 = S 487) (h488 : S_p 488 = S 488) (h489 : S_p 489 = S 489) (h490 : S_p 490 = S 490)
    (hj : ¬ rxJmp (S 489 (S 480 24 - 1))) (hc : c' = c + (if 20 ≤ S 489 (S 480 24 - 1) ∧ S 489 (S 480 24 - 1) ≤ 27 then 1 else 0)) : rxWz S_p first c' := by
  obtain ⟨d, a0, a1, a2, a3, a4, a5⟩ := h
  have hq : ∀ n, rxNb S_p n = rxNb S n := fun n => rxNb_cg (m := n) (fun i _ _ => by rw [h489]) (by omega)
  refine ⟨d, a0, by omega, fun k g0 g1 => a2 k g0 (by omega), fun k g0 g1 => ?_, fun i g0 g1 g2 => ?_, ?_⟩
  · rw [h18] at g1
    rw [h487, h488, h18]
    obtain ⟨b1, b2, b3, b4, b5⟩ := a3 k g0 g1
    refine ⟨b1, b2, b3, fun hao => ?_, b5⟩
    obtain ⟨c1, c2, c3⟩ := b4 hao
    refine ⟨c1, c2, c3.imp id fun ⟨i, i0, i1, i2, i3⟩ => ⟨i, i0, ?_, ?_, ?_⟩⟩
    · have hne : i ≠ S 480 24 - 1 := fun q => by
        rw [q] at i2
        exact hj i2
      omega
    · rw [h489]
      exact i2
    · rw [h490]
      exact i3
  · rw [h489] at g2
    obtain ⟨b1, b2, b3, b4⟩ := a4 i g0 (by omega) g2
    rw [h490, h18, h487, hq]
    exact ⟨b1, b2, b3, b4⟩
  · have e := rxNb_succ (S := S) (n := S 480 24 - 1) (by omega)
    rw [show S 480 24 - 1 + 1 = S 480 24 by omega] at e
    rw [h18, h24, hq, a5, hc]
    omega
theorem rxWz_patch {S S_p : Nat → Int → Int} {first c : Int} (h : rxWz S first 1) (h0 : 0 ≤ first) (hp : 1 ≤ S 480 24) (h18 : S_p 480 18 = S 480 18) (h24 : S_p 480 24 = S 480 24 - 1) (h487 : S_p 487 = S 487) (h489 : S_p 489 = S 489) (h490 : S_p 490 = S 490)
    (h488 : ∀ k : Int, k ≠ S 490 (S 480 24 - 1) → S_p 488 k = S 488 k) (hat : S_p 488 (S 490 (S 480 24 - 1)) = S 480 18) (hj : rxJmp (S 489 (S 480 24 - 1))) (hc : c = 1) : rxWz S_p first c := by
  subst hc
  obtain ⟨d, a0, a1, a2, a3, a4, a5⟩ := h
  have hq : ∀ n, rxNb S_p n = rxNb S n := fun n => rxNb_cg (m := n) (fun i _ _ => by rw [h489]) (by omega)
  have e := rxNb_succ (S := S) (n := S 480 24 - 1) (by omega)
  rw [show S 480 24 - 1 + 1 = S 480 24 by omega] at e
  have hnb : ¬ (20 ≤ S 489 (S 480 24 - 1) ∧ S 489 (S 480 24 - 1) ≤ 27) := by
    rcases hj with q | q <;> omega
  rw [if_neg hnb] at e
  obtain ⟨t1, t2, t3, t4⟩ := a4 (S 480 24 - 1) (by omega) (by omega) hj
  refine ⟨d, a0, by omega, fun k g0 g1 => a2 k g0 (by omega), fun k g0 g1 => ?_, fun i g0 g1 g2 => ?_, ?_⟩
  · rw [h18] at g1
    rw [h487, h18]
    obtain ⟨b1, b2, b3, b4, b5⟩ := a3 k g0 g1
    refine ⟨b1, b2, b3, fun hao => ?_, b5⟩
    obtain ⟨c1, c2, c3⟩ := b4 hao
    refine ⟨c1, c2, ?_⟩
    by_cases hk : k = S 490 (S 480 24 - 1)
    · refine Or.inl ?_
      rw [hk, hat]
      exact ⟨t2, Int.le_refl _, by rw [a5, t4]; omega⟩
    · rw [h488 k hk]
      refine c3.imp id fun ⟨i, i0, i1, i2, i3⟩ => ⟨i, i0, ?_, ?_, ?_⟩
      · have hne : i ≠ S 480 24 - 1 := fun q => by
          rw [q] at i3
          exact hk i3.symm
        omega
      · rw [h489]
        exact i2
      · rw [h490]
        exact i3
  · rw [h489] at g2
    obtain ⟨b1, b2, b3, b4⟩ := a4 i g0 (by omega) g2
    rw [h490, h18, h487, hq]
    exact ⟨b1, b2, b3, b4⟩
  · rw [h18, h24, hq, a5]
    omega
theorem rxWz_ao {S S_p : Nat → Int → Int} {first op : Int} (h : rxWz S first 1) (h0 : 0 ≤ first) (hp : 0 ≤ S 480 24) (h18 : S_p 480 18 = S 480 18 + 1) (h24 : S_p 480 24 = S 480 24 + 1) (h487 : ∀ i : Int, i ≠ S 480 18 → S_p 487 i = S 487 i) (h488 : ∀ i : Int, i ≠ S 480 18 → S_p 488 i = S 488 i) (h489 : ∀ i : Int, i ≠ S 480 24 → S_p 489 i = S 489 i) (h490 : ∀ i : Int, i ≠ S 480 24 → S_p 490 i = S 490 i)
    (k487 : S_p 487 (S 480 18) = op) (k489 : S_p 489 (S 480 24) = op) (k490 : S_p 490 (S 480 24) = S 480 18) (hj : rxJmp op) : rxWz S_p first 0 := by
  obtain ⟨d, a0, a1, a2, a3, a4, a5⟩ := h
  have hnb : ¬ (20 ≤ op ∧ op ≤ 27) := by
    rcases hj with q | q <;> omega
  have hq : ∀ n, n ≤ S 480 24 → rxNb S_p n = rxNb S n := fun n hn => rxNb_cg (m := n) (fun i _ _ => h489 i (by omega)) (by omega)
  have ne : ∀ k : Int, k ≤ S 480 18 → (fun x => if x = S 480 18 + 1 then rxNb S (S 480 24) else d x) k = d k := fun k hk => if_neg (by omega)
  have hat : (fun x => if x = S 480 18 + 1 then rxNb S (S 480 24) else d x) (S 480 18 + 1) = rxNb S (S 480 24) := if_pos rfl
  have hb := a2 (S 480 18) a1 (by omega)
  have hnn := rxNb_nn (S := S) (n := S 480 24)
  refine ⟨fun x => if x = S 480 18 + 1 then rxNb S (S 480 24) else d x, ?_, by omega, fun k g0 g1 => ?_, fun k g0 g1 => ?_, fun i g0 g1 g2 => ?_, ?_⟩
  · rw [ne first a1]
    exact a0
  · by_cases hk : k = S 480 18 + 1
    · subst hk
      rw [hat]
      omega
    · rw [ne k (by omega)]
      exact a2 k g0 (by omega)
  · by_cases hk : k = S 480 18
    · subst hk
      unfold rxIok
      rw [k487, hat, ne _ (by omega), a5]
      have h29 : 29 ≤ op ∧ op ≤ 30 := by rcases hj with q | q <;> omega
      exact ⟨fun q => by omega, fun q1 q2 => by omega, fun q => by omega, fun _ => ⟨by omega, by omega, Or.inr ⟨S 480 24, hp, by omega, by rw [k489]; exact hj, k490⟩⟩, by omega⟩
    · rw [h487 k hk, h488 k hk, h18]
      obtain ⟨b1, b2, b3, b4, b5⟩ := a3 k g0 (by omega)
      unfold rxIok
      rw [ne k (by omega), ne (k + 1) (by omega)]
      refine ⟨b1, b2, b3, fun hao => ?_, b5⟩
      obtain ⟨c1, c2, c3⟩ := b4 hao
      refine ⟨c1, c2, c3.imp (fun ⟨j1, j2, j3⟩ => ⟨j1, by omega, ?_⟩) fun ⟨i, i0, i1, i2, i3⟩ => ⟨i, i0, by omega, by rw [h489 i (by omega)]; exact i2, by rw [h490 i (by omega)]; exact i3⟩⟩
      rw [ne _ (by omega), ne _ (by omega)]
      exact j3
  · by_cases hi : i = S 480 24
    · subst hi
      rw [k490, k487, ne _ (by omega), hq _ (by omega)]
      exact ⟨a1, by omega, hj, by omega⟩
    · rw [h489 i hi] at g2
      obtain ⟨b1, b2, b3, b4⟩ := a4 i g0 (by omega) g2
      rw [h490 i hi, h18, h487 _ (by omega), hq i (by omega), ne _ (by omega)]
      exact ⟨b1, by omega, b3, b4⟩
  · rw [h18, h24, rxNb_succ hp, hq _ (by omega), k489, if_neg hnb]
    exact hat
/-- at the end, with nothing piled, the code is whole -/
theorem rxWz_seg {S : Nat → Int → Int} {first c : Int} (h : rxWz S first c) (h24 : S 480 24 = 0) : rxSeg (S 487) (S 488) first (S 480 18) := by
  obtain ⟨d, a0, a1, a2, a3, a4, a5⟩ := h
  refine ⟨d, a0, a2, fun k g0 g1 => ?_⟩
  obtain ⟨b1, b2, b3, b4, b5⟩ := a3 k g0 g1
  refine ⟨b1, b2, b3, fun hao => ?_, b5⟩
  obtain ⟨c1, c2, c3⟩ := b4 hao
  refine ⟨c1, c2, ?_⟩
  rcases c3 with c3 | ⟨i, i0, i1, -⟩
  · exact c3
  · omega
/-- an expression begins -/
theorem rxWz_new {S : Nat → Int → Int} (h24 : S 480 24 = 0) : rxWz S (S 480 18) 0 := by
  refine ⟨fun _ => 0, rfl, Int.le_refl _, fun k g0 g1 => ⟨Int.le_refl _, by show (0 : Int) ≤ k - S 480 18; omega⟩, fun k g0 g1 => by omega, fun i g0 g1 => by omega, ?_⟩
  rw [h24]
  rfl
-- bounds: what a step leaves
theorem rxPz_emit {S S_p : Nat → Int → Int} (h : rxPz S) (h18 : S 480 18 ≤ S_p 480 18) (h24 : S_p 480 24 = S 480 24) (h25 : S_p 480 25 = S 480 25) (h489 : S_p 489 = S 489) (h490 : S_p 490 = S 490) : rxPz S_p := by
  obtain ⟨a1, a2, a3, a4⟩ := h
  refine ⟨fun i g0 g1 g2 => ?_, ?_, fun i j g0 g1 g2 g3 => ?_, fun i g0 g1 => ?_⟩
  · rw [h24] at g1
    rw [h489] at g2
    have := a1 i g0 g1 g2
    rw [h490]
    omega
  · rw [h25, a2, h24, rxBr_cg (S := S) (S_p := S_p) (m := ((S 480 24).toNat : Int)) (fun i g0 g1 => by rw [h489]) (by omega)]
  · rw [h489] at g3 ⊢
    exact a3 i j g0 g1 (by omega) g3
  · rw [h489]
    exact a4 i g0 (by omega)
theorem rx_cnt_succ {f : Int → Int} {n : Int} (h : 0 ≤ n) : (rx_cnt f (n + 1).toNat : Int) = (rx_cnt f n.toNat : Int) + (if f n = -1 then 0 else 1) := by
  rw [show (n + 1).toNat = n.toNat + 1 by omega]
  show ((rx_cnt f n.toNat + (if f ((n.toNat : Nat) : Int) = -1 then 0 else 1) : Nat) : Int) = _
  rw [show ((n.toNat : Nat) : Int) = n by omega]
  split <;> omega
theorem rxPz_push {S S_p : Nat → Int → Int} {op : Int} (h : rxPz S) (hp : 0 ≤ S 480 24) (h18 : S 480 18 ≤ S_p 480 18) (h24 : S_p 480 24 = S 480 24 + 1) (h489 : ∀ i : Int, i ≠ S 480 24 → S_p 489 i = S 489 i) (h490 : ∀ i : Int, i ≠ S 480 24 → S_p 490 i = S 490 i) (hop : S_p 489 (S 480 24) = op) (h20 : 20 ≤ op) (h25 : S_p 480 25 = S 480 25 + (if 31 ≤ op then 1 else 0))
    (hj : rxJmp op → S_p 490 (S 480 24) < S_p 480 18) (hs : (20 ≤ op ∧ op ≤ 24) ∨ op = 32 ∨ rxNoSq S) : rxPz S_p := by
  obtain ⟨a1, a2, a3, a4⟩ := h
  refine ⟨fun i g0 g1 g2 => ?_, ?_, fun i j g0 g1 g2 g3 => ?_, fun i g0 g1 => ?_⟩
  · by_cases hi : i = S 480 24
    · subst hi
      rw [hop] at g2
      exact hj g2
    · rw [h489 i hi] at g2
      rw [h490 i hi]
      have := a1 i g0 (by omega) g2
      omega
  · rw [h24, rx_cnt_succ hp, h25, a2, rxBr_cg (m := ((S 480 24).toNat : Int)) (fun i g0 g1 => h489 i (by omega)) (by omega)]
    unfold rxIsBr
    rw [hop]
    by_cases hb : 31 ≤ op
    · rw [if_pos hb, if_pos hb, if_neg (by omega)]
    · rw [if_neg hb, if_neg hb, if_pos rfl]
  · rw [h489 i (by omega)] at g3
    by_cases hjj : j = S 480 24
    · subst hjj
      rw [hop]
      rcases hs with hs | hs | hs
      · exact Or.inl hs
      · exact Or.inr hs
      · exact absurd g3 (hs i g0 g1)
    · rw [h489 j hjj]
      exact a3 i j g0 g1 (by omega) g3
  · by_cases hi : i = S 480 24
    · subst hi
      omega
    · rw [h489 i hi]
      exact a4 i g0 (by omega)
theorem rxPz_pop {S S_p : Nat → Int → Int} (h : rxPz S) (hp : 1 ≤ S 480 24) (h18 : S_p 480 18 = S 480 18) (h24 : S_p 480 24 = S 480 24 - 1) (h489 : S_p 489 = S 489) (h490 : S_p 490 = S 490) (h25 : S_p 480 25 = S 480 25 - (if 31 ≤ S 489 (S 480 24 - 1) then 1 else 0)) : rxPz S_p := by
  obtain ⟨a1, a2, a3, a4⟩ := h
  refine ⟨fun i g0 g1 g2 => ?_, ?_, fun i j g0 g1 g2 g3 => ?_, fun i g0 g1 => ?_⟩
  · rw [h489] at g2
    rw [h490, h18]
    exact a1 i g0 (by omega) g2
  · have e := rx_cnt_succ (f := rxIsBr S) (n := S 480 24 - 1) (by omega)
    rw [show S 480 24 - 1 + 1 = S 480 24 by omega] at e
    have e2 : rx_cnt (rxIsBr S_p) (S_p 480 24).toNat = rx_cnt (rxIsBr S) (S 480 24 - 1).toNat := by
      rw [h24]
      exact rxBr_cg (m := (((S 480 24 - 1).toNat : Nat) : Int)) (fun i g0 g1 => by rw [h489]) (by omega)
    rw [e2, h25, a2, e]
    unfold rxIsBr
    by_cases hb : 31 ≤ S 489 (S 480 24 - 1)
    · rw [if_pos hb, if_pos hb, if_neg (by omega)]
      omega
    · rw [if_neg hb, if_neg hb, if_pos rfl]
      omega
  · rw [h489] at g3 ⊢
    exact a3 i j g0 g1 (by omega) g3
  · rw [h489]
    exact a4 i g0 (by omega)
