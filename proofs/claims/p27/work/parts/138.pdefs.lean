section
noncomputable def rxIsBr (S : Nat → Int → Int) (x : Int) : Int := if 31 ≤ S 489 x then 0 else -1
noncomputable def rxIsBin (S : Nat → Int → Int) (x : Int) : Int := if 20 ≤ S 489 x ∧ S 489 x ≤ 27 then 0 else -1
noncomputable def rxNb (S : Nat → Int → Int) (n : Int) : Int := (rx_cnt (rxIsBin S) n.toNat : Int)
noncomputable def rxJmp (v : Int) : Prop := v = 29 ∨ v = 30
noncomputable def rxPz (S : Nat → Int → Int) : Prop :=
  (∀ i : Int, 0 ≤ i → i < S 480 24 → rxJmp (S 489 i) → S 490 i < S 480 18) ∧
  S 480 25 = (rx_cnt (rxIsBr S) (S 480 24).toNat : Int) ∧
  (∀ i j : Int, 0 ≤ i → i < j → j < S 480 24 → S 489 i = 32 → (20 ≤ S 489 j ∧ S 489 j ≤ 24) ∨ S 489 j = 32) ∧
  (∀ i : Int, 0 ≤ i → i < S 480 24 → 20 ≤ S 489 i)
noncomputable def rxNoSq (S : Nat → Int → Int) : Prop := ∀ i : Int, 0 ≤ i → i < S 480 24 → S 489 i ≠ 32
noncomputable def rxIok (d : Int → Int) (k op : Int) (J : Prop) : Prop :=
  (op < 20 → 0 ≤ op ∧ op ≤ 8 ∧ d (k + 1) = d k + 1) ∧ (20 ≤ op → op ≤ 27 → 2 ≤ d k ∧ d (k + 1) = d k - 1) ∧ (op = 28 → 1 ≤ d k ∧ d (k + 1) = d k) ∧ (rxJmp op → 1 ≤ d k ∧ d (k + 1) = d k - 1 ∧ J) ∧ op ≤ 30
noncomputable def rxJok (d : Int → Int) (k arg last : Int) : Prop := k < arg ∧ arg ≤ last ∧ d arg = d k
noncomputable def rxWz (S : Nat → Int → Int) (first c : Int) : Prop := ∃ d : Int → Int, d first = 0 ∧ first ≤ S 480 18 ∧
  (∀ k : Int, first ≤ k → k ≤ S 480 18 → 0 ≤ d k ∧ d k ≤ k - first) ∧
  (∀ k : Int, first ≤ k → k < S 480 18 → rxIok d k (S 487 k) (rxJok d k (S 488 k) (S 480 18) ∨ ∃ i : Int, 0 ≤ i ∧ i < S 480 24 ∧ rxJmp (S 489 i) ∧ S 490 i = k)) ∧
  (∀ i : Int, 0 ≤ i → i < S 480 24 → rxJmp (S 489 i) → first ≤ S 490 i ∧ S 490 i < S 480 18 ∧ rxJmp (S 487 (S 490 i)) ∧ d (S 490 i) = rxNb S i + 1) ∧
  d (S 480 18) = rxNb S (S 480 24) + c
noncomputable def rxSeg (op arg : Int → Int) (first last : Int) : Prop := ∃ d : Int → Int, d first = 0 ∧ (∀ k : Int, first ≤ k → k ≤ last → 0 ≤ d k ∧ d k ≤ k - first) ∧ ∀ k : Int, first ≤ k → k < last → rxIok d k (op k) (rxJok d k (arg k) last)
theorem rxNb_cg {S S_p : Nat → Int → Int} {n m : Int} (h : ∀ i : Int, 0 ≤ i → i < m → S_p 489 i = S 489 i) (hn : n ≤ m) : rxNb S_p n = rxNb S n := by
  unfold rxNb
  rw [rx_cnt_congr (f := rxIsBin S_p) (g := rxIsBin S) fun x a b => by
    unfold rxIsBin
    rw [h x a (by omega)]]
theorem rxBr_cg {S S_p : Nat → Int → Int} {n : Nat} {m : Int} (h : ∀ i : Int, 0 ≤ i → i < m → S_p 489 i = S 489 i) (hn : (n : Int) ≤ m) : rx_cnt (rxIsBr S_p) n = rx_cnt (rxIsBr S) n :=
  rx_cnt_congr fun x a b => by
    unfold rxIsBr
    rw [h x a (by omega)]
theorem rxNb_succ {S : Nat → Int → Int} {n : Int} (h : 0 ≤ n) : rxNb S (n + 1) = rxNb S n + (if 20 ≤ S 489 n ∧ S 489 n ≤ 27 then 1 else 0) := by
  unfold rxNb
  rw [show (n + 1).toNat = n.toNat + 1 by omega]
  show ((rx_cnt (rxIsBin S) n.toNat + (if rxIsBin S ((n.toNat : Nat) : Int) = -1 then 0 else 1) : Nat) : Int) = _
  rw [show ((n.toNat : Nat) : Int) = n by omega]
  unfold rxIsBin
  by_cases hc : 20 ≤ S 489 n ∧ S 489 n ≤ 27
  · rw [if_pos hc, if_pos hc, if_neg (by omega)]
    omega
  · rw [if_neg hc, if_neg hc, if_pos rfl]
    omega
theorem rxNb_nn {S : Nat → Int → Int} {n : Int} : 0 ≤ rxNb S n := Int.natCast_nonneg _
theorem rxPz_cg {S S_p : Nat → Int → Int} (h : rxPz S) (h18 : S_p 480 18 = S 480 18) (h24 : S_p 480 24 = S 480 24) (h25 : S_p 480 25 = S 480 25) (h489 : ∀ i : Int, 0 ≤ i → i < S 480 24 → S_p 489 i = S 489 i) (h490 : ∀ i : Int, 0 ≤ i → i < S 480 24 → S_p 490 i = S 490 i) : rxPz S_p := by
  obtain ⟨a1, a2, a3, a4⟩ := h
  refine ⟨fun i g0 g1 g2 => ?_, ?_, fun i j g0 g1 g2 g3 => ?_, fun i g0 g1 => ?_⟩
  · rw [h24] at g1
    rw [h489 i g0 g1] at g2
    rw [h490 i g0 g1, h18]
    exact a1 i g0 g1 g2
  · rw [h25, a2, h24, rxBr_cg (m := ((S 480 24).toNat : Int)) (fun i g0 g1 => h489 i g0 (by omega)) (by omega)]
  · rw [h24] at g2
    rw [h489 i g0 (by omega)] at g3
    rw [h489 j (by omega) g2]
    exact a3 i j g0 g1 g2 g3
  · rw [h24] at g1
    rw [h489 i g0 g1]
    exact a4 i g0 g1
theorem rxWz_cg {S S_p : Nat → Int → Int} {first c : Int} (h : rxWz S first c) (h0 : 0 ≤ first) (h18 : S_p 480 18 = S 480 18) (h24 : S_p 480 24 = S 480 24) (h489 : ∀ i : Int, 0 ≤ i → i < S 480 24 → S_p 489 i = S 489 i) (h490 : ∀ i : Int, 0 ≤ i → i < S 480 24 → S_p 490 i = S 490 i) (h487 : ∀ i : Int, 0 ≤ i → i < S 480 18 → S_p 487 i = S 487 i) (h488 : ∀ i : Int, 0 ≤ i → i < S 480 18 → S_p 488 i = S 488 i) : rxWz S_p first c := by
  obtain ⟨d, a0, a1, a2, a3, a4, a5⟩ := h
  refine ⟨d, a0, by omega, fun k g0 g1 => a2 k g0 (by omega), fun k g0 g1 => ?_, fun i g0 g1 g2 => ?_, ?_⟩
  · rw [h18] at g1
    rw [h487 k (by omega) g1, h488 k (by omega) g1, h18]
    obtain ⟨b1, b2, b3, b4, b5⟩ := a3 k g0 g1
    refine ⟨b1, b2, b3, fun hao => ?_, b5⟩
    obtain ⟨c1, c2, c3⟩ := b4 hao
    refine ⟨c1, c2, c3.imp id fun ⟨i, i0, i1, i2, i3⟩ => ⟨i, i0, by omega, ?_, ?_⟩⟩
    · rw [h489 i i0 i1]
      exact i2
    · rw [h490 i i0 i1]
      exact i3
  · rw [h24] at g1
    rw [h489 i g0 g1] at g2
    obtain ⟨b1, b2, b3, b4⟩ := a4 i g0 g1 g2
    rw [h490 i g0 g1, h18, h487 _ (by omega) b2, rxNb_cg (m := S 480 24) h489 (by omega)]
    exact ⟨b1, b2, b3, b4⟩
  · rw [h18, h24, rxNb_cg (m := S 480 24) h489 (by omega)]
    exact a5
theorem rxWz_emit {S S_p : Nat → Int → Int} {first c c_p op : Int} (h : rxWz S first c) (h0 : 0 ≤ first) (h18 : S_p 480 18 = S 480 18 + 1) (h24 : S_p 480 24 = S 480 24) (h489 : S_p 489 = S 489) (h490 : S_p 490 = S 490) (h487 : ∀ i : Int, i ≠ S 480 18 → S_p 487 i = S 487 i) (h488 : ∀ i : Int, i ≠ S 480 18 → S_p 488 i = S 488 i) (hop : S_p 487 (S 480 18) = op)
    (hi : ∀ d : Int → Int, d (S 480 18) = rxNb S (S 480 24) + c → d (S 480 18 + 1) = rxNb S (S 480 24) + c_p → rxIok d (S 480 18) op (∃ i : Int, 0 ≤ i ∧ i < S 480 24 ∧ rxJmp (S 489 i) ∧ S 490 i = S 480 18)) (hc : c_p ≤ c + 1) (hc0 : 0 ≤ rxNb S (S 480 24) + c_p) : rxWz S_p first c_p := by
  obtain ⟨d, a0, a1, a2, a3, a4, a5⟩ := h
  have ne : ∀ k : Int, k ≤ S 480 18 → (fun x => if x = S 480 18 + 1 then rxNb S (S 480 24) + c_p else d x) k = d k := fun k hk => if_neg (by omega)
  have hat : (fun x => if x = S 480 18 + 1 then rxNb S (S 480 24) + c_p else d x) (S 480 18 + 1) = rxNb S (S 480 24) + c_p := if_pos rfl
  have hq : ∀ n, rxNb S_p n = rxNb S n := fun n => rxNb_cg (m := n) (fun i _ _ => by rw [h489]) (by omega)
  have hb := a2 (S 480 18) a1 (by omega)
  refine ⟨fun x => if x = S 480 18 + 1 then rxNb S (S 480 24) + c_p else d x, ?_, by omega, fun k g0 g1 => ?_, fun k g0 g1 => ?_, fun i g0 g1 g2 => ?_, ?_⟩
  · rw [ne first a1]
    exact a0
  · by_cases hk : k = S 480 18 + 1
    · subst hk
      rw [hat]
      omega
    · rw [ne k (by omega)]
      exact a2 k g0 (by omega)
  · by_cases hk : k = S 480 18
    · subst hk
      have e1 := hi (fun x => if x = S 480 18 + 1 then rxNb S (S 480 24) + c_p else d x) ((ne _ (by omega)).trans a5) hat
      rw [hop]
      obtain ⟨b1, b2, b3, b4, b5⟩ := e1
      refine ⟨b1, b2, b3, fun hao => ?_, b5⟩
      obtain ⟨c1, c2, i, i0, i1, i2, i3⟩ := b4 hao
      exact ⟨c1, c2, Or.inr ⟨i, i0, by omega, by rw [h489]; exact i2, by rw [h490]; exact i3⟩⟩
    · rw [h487 k hk, h488 k hk, h18]
      obtain ⟨b1, b2, b3, b4, b5⟩ := a3 k g0 (by omega)
      unfold rxIok
      rw [ne k (by omega), ne (k + 1) (by omega)]
      refine ⟨b1, b2, b3, fun hao => ?_, b5⟩
      obtain ⟨c1, c2, c3⟩ := b4 hao
      refine ⟨c1, c2, c3.imp (fun ⟨j1, j2, j3⟩ => ⟨j1, by omega, ?_⟩) fun ⟨i, i0, i1, i2, i3⟩ => ⟨i, i0, by omega, by rw [h489]; exact i2, by rw [h490]; exact i3⟩⟩
      rw [ne _ (by omega), ne _ (by omega)]
      exact j3
  · rw [h24] at g1
    rw [h489] at g2
    obtain ⟨b1, b2, b3, b4⟩ := a4 i g0 g1 g2
    rw [h490, h18, h487 _ (by omega), hq, ne _ (by omega)]
    exact ⟨b1, by omega, b3, b4⟩
  · rw [h18, h24, hq]
    exact hat
theorem rxWz_push {S S_p : Nat → Int → Int} {first c c_p op : Int} (h : rxWz S first c) (h0 : 0 ≤ first) (hp : 0 ≤ S 480 24) (h18 : S_p 480 18 = S 480 18) (h24 : S_p 480 24 = S 480 24 + 1) (h487 : S_p 487 = S 487) (h488 : S_p 488 = S 488) (h489 : ∀ i : Int, i ≠ S 480 24 → S_p 489 i = S 489 i) (h490 : ∀ i : Int, i ≠ S 480 24 → S_p 490 i = S 490 i) (hop : S_p 489 (S 480 24) = op)
    (hj : ¬ rxJmp op) (hc : c_p = c - (if 20 ≤ op ∧ op ≤ 27 then 1 else 0)) : rxWz S_p first c_p := by
  obtain ⟨d, a0, a1, a2, a3, a4, a5⟩ := h
  have hq : ∀ n, n ≤ S 480 24 → rxNb S_p n = rxNb S n := fun n hn => rxNb_cg (m := n) (fun i _ _ => h489 i (by omega)) (by omega)
  refine ⟨d, a0, by omega, fun k g0 g1 => a2 k g0 (by omega), fun k g0 g1 => ?_, fun i g0 g1 g2 => ?_, ?_⟩
  · rw [h18] at g1
    rw [h487, h488, h18]
    obtain ⟨b1, b2, b3, b4, b5⟩ := a3 k g0 g1
    refine ⟨b1, b2, b3, fun hao => ?_, b5⟩
    obtain ⟨c1, c2, c3⟩ := b4 hao
    refine ⟨c1, c2, c3.imp id fun ⟨i, i0, i1, i2, i3⟩ => ⟨i, i0, by omega, ?_, ?_⟩⟩
    · rw [h489 i (by omega)]
      exact i2
    · rw [h490 i (by omega)]
      exact i3
  · have hne : i ≠ S 480 24 := fun q => by
      rw [q, hop] at g2
      exact hj g2
    rw [h489 i hne] at g2
    obtain ⟨b1, b2, b3, b4⟩ := a4 i g0 (by omega) g2
    rw [h490 i hne, h18, h487, hq i (by omega)]
    exact ⟨b1, b2, b3, b4⟩
  · rw [h18, h24, rxNb_succ hp, hq _ (by omega), hop, a5, hc]
    omega
theorem rxWz_pop {S S_p : Nat → Int → Int} {first c c_p : Int} (h : rxWz S first c) (h0 : 0 ≤ first) (hp : 1 ≤ S 480 24) (h18 : S_p 480 18 = S 480 18) (h24 : S_p 480 24 = S 480 24 - 1) (h487 : S_p 487 = S 487) (h488 : S_p 488 = S 488) (h489 : S_p 489 = S 489) (h490 : S_p 490 = S 490)
    (hj : ¬ rxJmp (S 489 (S 480 24 - 1))) (hc : c_p = c + (if 20 ≤ S 489 (S 480 24 - 1) ∧ S 489 (S 480 24 - 1) ≤ 27 then 1 else 0)) : rxWz S_p first c_p := by
  obtain ⟨d, a0, a1, a2, a3, a4, a5⟩ := h
  have hq : ∀ n, rxNb S_p n = rxNb S n := fun n => rxNb_cg (m := n) (fun i _ _ => by rw [h489]) (by omega)
  refine ⟨d, a0, by omega, fun k g0 g1 => a2 k g0 (by omega), fun k g0 g1 => ?_, fun i g0 g1 g2 => ?_, ?_⟩
  · rw [h18] at g1
    rw [h487, h488, h18]
    obtain ⟨b1, b2, b3, b4, b5⟩ := a3 k g0 g1
    refine ⟨b1, b2, b3, fun hao => ?_, b5⟩
    obtain ⟨c1, c2, c3⟩ := b4 hao
    refine ⟨c1, c2, c3.imp id fun ⟨i, i0, i1, i2, i3⟩ => ⟨i, i0, ?_, ?_, ?_⟩⟩
    · have hne : i ≠ S 480 24 - 1 := fun q => by
        rw [q] at i2
        exact hj i2
      omega
    · rw [h489]
      exact i2
    · rw [h490]
      exact i3
  · rw [h489] at g2
    obtain ⟨b1, b2, b3, b4⟩ := a4 i g0 (by omega) g2
    rw [h490, h18, h487, hq]
    exact ⟨b1, b2, b3, b4⟩
  · have e := rxNb_succ (S := S) (n := S 480 24 - 1) (by omega)
    rw [show S 480 24 - 1 + 1 = S 480 24 by omega] at e
    rw [h18, h24, hq, a5, hc]
    omega
theorem rxWz_patch {S S_p : Nat → Int → Int} {first c : Int} (h : rxWz S first 1) (h0 : 0 ≤ first) (hp : 1 ≤ S 480 24) (h18 : S_p 480 18 = S 480 18) (h24 : S_p 480 24 = S 480 24 - 1) (h487 : S_p 487 = S 487) (h489 : S_p 489 = S 489) (h490 : S_p 490 = S 490)
    (h488 : ∀ k : Int, k ≠ S 490 (S 480 24 - 1) → S_p 488 k = S 488 k) (hat : S_p 488 (S 490 (S 480 24 - 1)) = S 480 18) (hj : rxJmp (S 489 (S 480 24 - 1))) (hc : c = 1) : rxWz S_p first c := by
  subst hc
  obtain ⟨d, a0, a1, a2, a3, a4, a5⟩ := h
  have hq : ∀ n, rxNb S_p n = rxNb S n := fun n => rxNb_cg (m := n) (fun i _ _ => by rw [h489]) (by omega)
  have e := rxNb_succ (S := S) (n := S 480 24 - 1) (by omega)
  rw [show S 480 24 - 1 + 1 = S 480 24 by omega] at e
  have hnb : ¬ (20 ≤ S 489 (S 480 24 - 1) ∧ S 489 (S 480 24 - 1) ≤ 27) := by
    rcases hj with q | q <;> omega
  rw [if_neg hnb] at e
  obtain ⟨t1, t2, t3, t4⟩ := a4 (S 480 24 - 1) (by omega) (by omega) hj
  refine ⟨d, a0, by omega, fun k g0 g1 => a2 k g0 (by omega), fun k g0 g1 => ?_, fun i g0 g1 g2 => ?_, ?_⟩
  · rw [h18] at g1
    rw [h487, h18]
    obtain ⟨b1, b2, b3, b4, b5⟩ := a3 k g0 g1
    refine ⟨b1, b2, b3, fun hao => ?_, b5⟩
    obtain ⟨c1, c2, c3⟩ := b4 hao
    refine ⟨c1, c2, ?_⟩
    by_cases hk : k = S 490 (S 480 24 - 1)
    · refine Or.inl ?_
      rw [hk, hat]
      exact ⟨t2, Int.le_refl _, by rw [a5, t4]; omega⟩
    · rw [h488 k hk]
      refine c3.imp id fun ⟨i, i0, i1, i2, i3⟩ => ⟨i, i0, ?_, ?_, ?_⟩
      · have hne : i ≠ S 480 24 - 1 := fun q => by
          rw [q] at i3
          exact hk i3.symm
        omega
      · rw [h489]
        exact i2
      · rw [h490]
        exact i3
  · rw [h489] at g2
    obtain ⟨b1, b2, b3, b4⟩ := a4 i g0 (by omega) g2
    rw [h490, h18, h487, hq]
    exact ⟨b1, b2, b3, b4⟩
  · rw [h18, h24, hq, a5]
    omega
theorem rxWz_ao {S S_p : Nat → Int → Int} {first op : Int} (h : rxWz S first 1) (h0 : 0 ≤ first) (hp : 0 ≤ S 480 24) (h18 : S_p 480 18 = S 480 18 + 1) (h24 : S_p 480 24 = S 480 24 + 1) (h487 : ∀ i : Int, i ≠ S 480 18 → S_p 487 i = S 487 i) (h488 : ∀ i : Int, i ≠ S 480 18 → S_p 488 i = S 488 i) (h489 : ∀ i : Int, i ≠ S 480 24 → S_p 489 i = S 489 i) (h490 : ∀ i : Int, i ≠ S 480 24 → S_p 490 i = S 490 i)
    (k487 : S_p 487 (S 480 18) = op) (k489 : S_p 489 (S 480 24) = op) (k490 : S_p 490 (S 480 24) = S 480 18) (hj : rxJmp op) : rxWz S_p first 0 := by
  obtain ⟨d, a0, a1, a2, a3, a4, a5⟩ := h
  have hnb : ¬ (20 ≤ op ∧ op ≤ 27) := by
    rcases hj with q | q <;> omega
  have hq : ∀ n, n ≤ S 480 24 → rxNb S_p n = rxNb S n := fun n hn => rxNb_cg (m := n) (fun i _ _ => h489 i (by omega)) (by omega)
  have ne : ∀ k : Int, k ≤ S 480 18 → (fun x => if x = S 480 18 + 1 then rxNb S (S 480 24) else d x) k = d k := fun k hk => if_neg (by omega)
  have hat : (fun x => if x = S 480 18 + 1 then rxNb S (S 480 24) else d x) (S 480 18 + 1) = rxNb S (S 480 24) := if_pos rfl
  have hb := a2 (S 480 18) a1 (by omega)
  have hnn := rxNb_nn (S := S) (n := S 480 24)
  refine ⟨fun x => if x = S 480 18 + 1 then rxNb S (S 480 24) else d x, ?_, by omega, fun k g0 g1 => ?_, fun k g0 g1 => ?_, fun i g0 g1 g2 => ?_, ?_⟩
  · rw [ne first a1]
    exact a0
  · by_cases hk : k = S 480 18 + 1
    · subst hk
      rw [hat]
      omega
    · rw [ne k (by omega)]
      exact a2 k g0 (by omega)
  · by_cases hk : k = S 480 18
    · subst hk
      unfold rxIok
      rw [k487, hat, ne _ (by omega), a5]
      have h29 : 29 ≤ op ∧ op ≤ 30 := by rcases hj with q | q <;> omega
      exact ⟨fun q => by omega, fun q1 q2 => by omega, fun q => by omega, fun _ => ⟨by omega, by omega, Or.inr ⟨S 480 24, hp, by omega, by rw [k489]; exact hj, k490⟩⟩, by omega⟩
    · rw [h487 k hk, h488 k hk, h18]
      obtain ⟨b1, b2, b3, b4, b5⟩ := a3 k g0 (by omega)
      unfold rxIok
      rw [ne k (by omega), ne (k + 1) (by omega)]
      refine ⟨b1, b2, b3, fun hao => ?_, b5⟩
      obtain ⟨c1, c2, c3⟩ := b4 hao
      refine ⟨c1, c2, c3.imp (fun ⟨j1, j2, j3⟩ => ⟨j1, by omega, ?_⟩) fun ⟨i, i0, i1, i2, i3⟩ => ⟨i, i0, by omega, by rw [h489 i (by omega)]; exact i2, by rw [h490 i (by omega)]; exact i3⟩⟩
      rw [ne _ (by omega), ne _ (by omega)]
      exact j3
  · by_cases hi : i = S 480 24
    · subst hi
      rw [k490, k487, ne _ (by omega), hq _ (by omega)]
      exact ⟨a1, by omega, hj, by omega⟩
    · rw [h489 i hi] at g2
      obtain ⟨b1, b2, b3, b4⟩ := a4 i g0 (by omega) g2
      rw [h490 i hi, h18, h487 _ (by omega), hq i (by omega), ne _ (by omega)]
      exact ⟨b1, by omega, b3, b4⟩
  · rw [h18, h24, rxNb_succ hp, hq _ (by omega), k489, if_neg hnb]
    exact hat
theorem rxWz_seg {S : Nat → Int → Int} {first c : Int} (h : rxWz S first c) (h24 : S 480 24 = 0) : rxSeg (S 487) (S 488) first (S 480 18) := by
  obtain ⟨d, a0, a1, a2, a3, a4, a5⟩ := h
  refine ⟨d, a0, a2, fun k g0 g1 => ?_⟩
  obtain ⟨b1, b2, b3, b4, b5⟩ := a3 k g0 g1
  refine ⟨b1, b2, b3, fun hao => ?_, b5⟩
  obtain ⟨c1, c2, c3⟩ := b4 hao
  refine ⟨c1, c2, ?_⟩
  rcases c3 with c3 | ⟨i, i0, i1, -⟩
  · exact c3
  · omega
theorem rxWz_new {S : Nat → Int → Int} (h24 : S 480 24 = 0) : rxWz S (S 480 18) 0 := by
  refine ⟨fun _ => 0, rfl, Int.le_refl _, fun k g0 g1 => ⟨Int.le_refl _, by show (0 : Int) ≤ k - S 480 18; omega⟩, fun k g0 g1 => by omega, fun i g0 g1 => by omega, ?_⟩
  rw [h24]
  rfl
-- bounds: what a step leaves
theorem rxPz_emit {S S_p : Nat → Int → Int} (h : rxPz S) (h18 : S 480 18 ≤ S_p 480 18) (h24 : S_p 480 24 = S 480 24) (h25 : S_p 480 25 = S 480 25) (h489 : S_p 489 = S 489) (h490 : S_p 490 = S 490) : rxPz S_p := by
  obtain ⟨a1, a2, a3, a4⟩ := h
  refine ⟨fun i g0 g1 g2 => ?_, ?_, fun i j g0 g1 g2 g3 => ?_, fun i g0 g1 => ?_⟩
  · rw [h24] at g1
    rw [h489] at g2
    have := a1 i g0 g1 g2
    rw [h490]
    omega
  · rw [h25, a2, h24, rxBr_cg (S := S) (S_p := S_p) (m := ((S 480 24).toNat : Int)) (fun i g0 g1 => by rw [h489]) (by omega)]
  · rw [h489] at g3 ⊢
    exact a3 i j g0 g1 (by omega) g3
  · rw [h489]
    exact a4 i g0 (by omega)
theorem rx_cnt_succ {f : Int → Int} {n : Int} (h : 0 ≤ n) : (rx_cnt f (n + 1).toNat : Int) = (rx_cnt f n.toNat : Int) + (if f n = -1 then 0 else 1) := by
  rw [show (n + 1).toNat = n.toNat + 1 by omega]
  show ((rx_cnt f n.toNat + (if f ((n.toNat : Nat) : Int) = -1 then 0 else 1) : Nat) : Int) = _
  rw [show ((n.toNat : Nat) : Int) = n by omega]
  split <;> omega
theorem rxPz_push {S S_p : Nat → Int → Int} {op : Int} (h : rxPz S) (hp : 0 ≤ S 480 24) (h18 : S 480 18 ≤ S_p 480 18) (h24 : S_p 480 24 = S 480 24 + 1) (h489 : ∀ i : Int, i ≠ S 480 24 → S_p 489 i = S 489 i) (h490 : ∀ i : Int, i ≠ S 480 24 → S_p 490 i = S 490 i) (hop : S_p 489 (S 480 24) = op) (h20 : 20 ≤ op) (h25 : S_p 480 25 = S 480 25 + (if 31 ≤ op then 1 else 0))
    (hj : rxJmp op → S_p 490 (S 480 24) < S_p 480 18) (hs : (20 ≤ op ∧ op ≤ 24) ∨ op = 32 ∨ rxNoSq S) : rxPz S_p := by
  obtain ⟨a1, a2, a3, a4⟩ := h
  refine ⟨fun i g0 g1 g2 => ?_, ?_, fun i j g0 g1 g2 g3 => ?_, fun i g0 g1 => ?_⟩
  · by_cases hi : i = S 480 24
    · subst hi
      rw [hop] at g2
      exact hj g2
    · rw [h489 i hi] at g2
      rw [h490 i hi]
      have := a1 i g0 (by omega) g2
      omega
  · rw [h24, rx_cnt_succ hp, h25, a2, rxBr_cg (m := ((S 480 24).toNat : Int)) (fun i g0 g1 => h489 i (by omega)) (by omega)]
    unfold rxIsBr
    rw [hop]
    by_cases hb : 31 ≤ op
    · rw [if_pos hb, if_pos hb, if_neg (by omega)]
    · rw [if_neg hb, if_neg hb, if_pos rfl]
  · rw [h489 i (by omega)] at g3
    by_cases hjj : j = S 480 24
    · subst hjj
      rw [hop]
      rcases hs with hs | hs | hs
      · exact Or.inl hs
      · exact Or.inr hs
      · exact absurd g3 (hs i g0 g1)
    · rw [h489 j hjj]
      exact a3 i j g0 g1 (by omega) g3
  · by_cases hi : i = S 480 24
    · subst hi
      omega
    · rw [h489 i hi]
      exact a4 i g0 (by omega)
theorem rxPz_pop {S S_p : Nat → Int → Int} (h : rxPz S) (hp : 1 ≤ S 480 24) (h18 : S_p 480 18 = S 480 18) (h24 : S_p 480 24 = S 480 24 - 1) (h489 : S_p 489 = S 489) (h490 : S_p 490 = S 490) (h25 : S_p 480 25 = S 480 25 - (if 31 ≤ S 489 (S 480 24 - 1) then 1 else 0)) : rxPz S_p := by
  obtain ⟨a1, a2, a3, a4⟩ := h
  refine ⟨fun i g0 g1 g2 => ?_, ?_, fun i j g0 g1 g2 g3 => ?_, fun i g0 g1 => ?_⟩
  · rw [h489] at g2
    rw [h490, h18]
    exact a1 i g0 (by omega) g2
  · have e := rx_cnt_succ (f := rxIsBr S) (n := S 480 24 - 1) (by omega)
    rw [show S 480 24 - 1 + 1 = S 480 24 by omega] at e
    have e2 : rx_cnt (rxIsBr S_p) (S_p 480 24).toNat = rx_cnt (rxIsBr S) (S 480 24 - 1).toNat := by
      rw [h24]
      exact rxBr_cg (m := (((S 480 24 - 1).toNat : Nat) : Int)) (fun i g0 g1 => by rw [h489]) (by omega)
    rw [e2, h25, a2, e]
    unfold rxIsBr
    by_cases hb : 31 ≤ S 489 (S 480 24 - 1)
    · rw [if_pos hb, if_pos hb, if_neg (by omega)]
      omega
    · rw [if_neg hb, if_neg hb, if_pos rfl]
      omega
  · rw [h489] at g3 ⊢
    exact a3 i j g0 g1 (by omega) g3
  · rw [h489]
    exact a4 i g0 (by omega)
end
section
noncomputable def rxCMU : bx_Ct := ([(3, (1, 480, 0)), (0, (0, 0, 1))], none, [(12, 9), (12, 10), (12, 11), (12, 12), (12, 13), (12, 14)], 2, [])
noncomputable def rxIMU_0 (S0 : Nat → Int → Int) (ws : List Int) (S : Nat → Int → Int) (is : Int) : Prop := S = S0 ∧ ws = [480, is]
noncomputable def rxmMU_0 (S0 : Nat → Int → Int) (ws : List Int) (S : Nat → Int → Int) (is : Int) : Nat := 100
noncomputable def rxzMU_0 : rx_Z := ([(0, 0), (0, 0), (0, 0), (0, 0), (0, 0), (0, 0), (0, 0), (0, 0), (0, 1)], [], [], 0, 0, 0, [(0, .inr (3, (0, 480))), (1, .inr (0, (8, 0)))], [])
noncomputable def rxIMU_1 (S0 : Nat → Int → Int) (ws : List Int) (S : Nat → Int → Int) (is : Int) : Prop := S = S0 ∧ S 480 14 = 0 ∧ ws = [480, is]
noncomputable def rxmMU_1 (S0 : Nat → Int → Int) (ws : List Int) (S : Nat → Int → Int) (is : Int) : Nat := 90
noncomputable def rxzMU_1 : rx_Z := ([(0, 0), (0, 0), (0, 0), (0, 0), (0, 0), (0, 0), (0, 0), (0, 0), (1, 1)], [], [], 0, 0, 32, [(0, .inr (3, (0, 480))), (1, .inr (0, (8, 0)))], [.inr (3, (0, 480))])
noncomputable def rxIMU_2 (S0 : Nat → Int → Int) (ws : List Int) (S : Nat → Int → Int) (is : Int) : Prop := S0 480 14 = 0 ∧ S 480 14 = 0 ∧ ws = [480, is] ∧ rxTk S ∧ S0 480 10 ≤ S 480 9
noncomputable def rxmMU_2 (S0 : Nat → Int → Int) (ws : List Int) (S : Nat → Int → Int) (is : Int) : Nat := 80
noncomputable def rxzMU_2 : rx_Z := ([(0, 0), (0, 0), (0, 0), (0, 0), (0, 0), (0, 0), (0, 0), (0, 0), (1, 1)], [], [], 0, 0, 35, [(0, .inr (3, (0, 480))), (1, .inr (0, (8, 0)))], [])
noncomputable def rxoMU_0_0 : bx_HO := (([(0, 0), (0, 0), (0, 0), (0, 0), (0, 0), (0, 0), (0, 0), (0, 0), (1, 1), (0, 0)], [(3, (8, 0), (0, 0))], [(((0, 0), 1851192626986356800234234225391877833944518517379736727590010880000000), .inr (0, (9, 0))), (((0, 480), 14), .inr (0, (9, 0)))], 0, 0, 32, [(0, .inr (3, (0, 480))), (1, .inr (0, (8, 0)))], [.inr (3, (0, 480))]), [], [], [(0, 0), (0, 0), (0, 0), (0, 0), (0, 0), (0, 0), (0, 0), (0, 0), (8, 0)], 1)
noncomputable def rxeMU_0_0 : rx_End × List (Nat × Int × Int) := (([(0, 0), (0, 0), (0, 0), (0, 0), (0, 0), (0, 0), (0, 0), (0, 0), (0, 0), (0, 0), (0, 400)], [], [(((0, 0), 1851192626986356800033527518605102225670697052925901474036187139000000), .inr (0, (10, 0))), (((0, 480), 13), .inr (0, (10, 0))), (((0, 0), 1851192626986356799230700691457999792575411195110560459820892160000000), .inr (0, (10, 0))), (((0, 480), 9), .inr (0, (10, 0))), (((0, 0), 1851192626986356800234234225391877833944518517379736727590010883000000), .inr (0, (0, 1))), (((0, 480), 14), .inr (0, (0, 1))), (((0, 0), 1851192626986356800234234225391877833944518517379736727590010880000000), .inr (0, (9, 0)))], none), [])
noncomputable def rxeMU_0_1 : rx_End × List (Nat × Int × Int) := (([(0, 0), (0, 0), (0, 0), (0, 0), (0, 0), (0, 0), (0, 0), (0, 0), (0, 1), (1, 1)], [(3, (9, 0), (0, 0))], [(((0, 0), 1851192626986356800234234225391877833944518517379736727590010880000000), .inr (0, (9, 0))), (((0, 480), 14), .inr (0, (9, 0)))], none), [])
noncomputable def rxeMU_2_0 : rx_End × List (Nat × Int × Int) := (([(0, 0), (0, 0), (0, 0), (0, 0), (0, 0), (0, 0), (0, 0), (0, 0), (1, 1)], [], [], none), [])
noncomputable def rxYMU : List bx_HE := [(rxzMU_0, [rxoMU_0_0], [rxeMU_0_0, rxeMU_0_1]), (rxzMU_1, [], []), (rxzMU_2, [], [rxeMU_2_0])]
noncomputable def rxUMU (q : bx_HE) : Bool := Nat.beq (rx_zpc q.1) 32
noncomputable def rxYBMU : bx_B := (rxV, rxNP, rxDmf, bx_mdH rxCMU.2.2.1)
set_option maxRecDepth 100000 in
theorem rxYcMU : bx_chkH rxYBMU rxM265 rxCMU rxYMU (rxUMU, fun cut z => rx_ex2 (rxCT rxYBMU rxCnE) cut 30000 rxCMU.2.2.2.1 265 z) = true := by decide +kernel
noncomputable def rxIMU (S0 : Nat → Int → Int) (ws : List Int) (i : Nat) : bx_SP := fun S r => match i with | 0 => rxIMU_0 S0 ws S (r 8) | 1 => rxIMU_1 S0 ws S (r 8) | 2 => rxIMU_2 S0 ws S (r 8) | _ => False
noncomputable def rxmMU (S0 : Nat → Int → Int) (ws : List Int) (i : Nat) (S : Nat → Int → Int) (r : Nat → Int) : Nat := match i with | 0 => rxmMU_0 S0 ws S (r 8) | 1 => rxmMU_1 S0 ws S (r 8) | 2 => rxmMU_2 S0 ws S (r 8) | _ => 0
noncomputable def rxPMU (S0 : Nat → Int → Int) (ws : List Int) : Prop := rxTk S0
noncomputable def rxPSMU (S0 : Nat → Int → Int) (ws : List Int) (S : Nat → Int → Int) (w : Option Int) : Prop := w = none ∧ rxTk S ∧ ∃ is : Int, ws = [480, is] ∧ ((S0 480 14 = 0 ∧ is = 1 ∧ S 480 14 = 0 ∧ S0 480 10 ≤ S 480 9) ∨ ((S0 480 14 ≠ 0 ∨ is = 0) ∧ S 480 14 = 1 ∧ S 480 9 = S0 480 9 ∧ S 480 10 = S0 480 10 ∧ S 480 11 = S0 480 11 ∧ S 480 12 = S0 480 12))
theorem rxkMU_1 {S0 : Nat → Int → Int} {ws : List Int} {S : Nat → Int → Int} {is : Int} (hP : rxPMU S0 ws) (hin : bx_same rxL (bx_mdl rxCMU.2.2.1) S0 S) (I0 : bx_Inv rxL S) (hinv : rxIMU_1 S0 ws S is) (l8 : 1 ≤ is) (u8 : is ≤ 1) : rxPNX S [480] ∧ ∀ (S_p : Nat → Int → Int), rxPSNX S [480] S_p none → bx_Inv rxL S_p → bx_same rxL (bx_mdl rxCNX.2.2.1) S S_p → rxIMU_2 S0 ws S_p is ∧ rxmMU_2 S0 ws S_p is < rxmMU_1 S0 ws S is := by
  obtain ⟨rfl, h1, hw⟩ := hinv
  have hT : rxTk S := hP
  refine ⟨hT.2.2.1, fun S_p hq I1 hsm => ⟨⟨h1, ?_, hw, hq.2.1, hq.2.2⟩, by unfold rxmMU_1 rxmMU_2; omega⟩⟩
  have := rx_sameO hsm (p := 480) (j := 14) rfl (by omega) (by decide +kernel) (by decide)
  exact this.trans h1
theorem rxsMU_1 {X : (Nat → Int → Int) → Prop} {S0 : Nat → Int → Int} {ws : List Int} (hP : rxPMU S0 ws) : rx_obK X S0 rxCMU.2.2.1 rxCNX.2.2.1 (rxIMU S0 ws) (rxmMU S0 ws) 1 2 rxzMU_1 rxzMU_2 [.inr (3, (0, 480))] none rxPNX rxPSNX := by
  intro S r hinv hXS I0 hin hs_ hf_
  have b_ := bx_bds_sat hs_
  have f_ := bx_fcl_ok hs_.1 hf_
  obtain ⟨⟨l8, u8⟩, -⟩ := b_
  have g := rxkMU_1 hP hin I0 hinv l8 u8
  have ea : List.map (bx_num r) [.inr (3, (0, 480))] = [480] := by
    simp only [List.map_cons, List.map_nil, bx_xv_ok hs_.1]
    rfl
  rw [ea]
  refine ⟨g.1, fun S_p w r_p hPS hX_p I1 hsm hr hw hs_p => ?_⟩
  have hw : w = none := hPS.1
  subst hw
  have g2 := g.2 S_p hPS I1 hsm
  show rxIMU_2 S0 ws S_p (r_p 8) ∧ rxmMU_2 S0 ws S_p (r_p 8) < _
  rw [hr 8 (by decide)]
  exact g2
theorem rxcMU_0_0 {S0 : Nat → Int → Int} {ws : List Int} {S : Nat → Int → Int} {is x9 : Int} (hP : rxPMU S0 ws) (hin : bx_same rxL (bx_mdl rxCMU.2.2.1) S0 S) (I0 : bx_Inv rxL S) (hinv : rxIMU_0 S0 ws S is) (l8 : 1 ≤ is) (u8 : is ≤ 1) (l9 : 0 ≤ x9) (u9 : x9 ≤ 0) (f0 : is ≠ 0) (e0 : S 480 14 = x9) : (True) ∧ (True) ∧ rxIMU_1 S0 ws S is ∧ rxmMU_1 S0 ws S is < rxmMU_0 S0 ws S is := by
  obtain ⟨rfl, hw⟩ := hinv
  exact ⟨trivial, trivial, ⟨rfl, by omega, by rw [hw]⟩, by unfold rxmMU_0 rxmMU_1; omega⟩
theorem rxgMU_0_0 {X : (Nat → Int → Int) → Prop} {S0 : Nat → Int → Int} {ws : List Int} (hP : rxPMU S0 ws) : bx_obC rxL X S0 rxCMU.2.2.1 (rxIMU S0 ws) (rxmMU S0 ws) 0 rxzMU_0 rxoMU_0_0 := by
  intro S S_p r r_p hinv hX hin hsm_ hseg
  obtain ⟨I0, I1, h0_, hr_, b_, f_, d_⟩ := bx_cl (evs := [(0, (0, 480), (0, 14), .inr (0, (9, 0)))]) (fvs := [(3, (8, 0), (0, 0), (0, 0))]) hseg (by decide +kernel) (by decide +kernel)
  have hinv : rxIMU_0 S0 ws S (r 8) := hinv
  rw [← hr_ 8 (by decide)] at hinv
  obtain ⟨⟨l8, u8⟩, ⟨l9, u9⟩, -⟩ := b_
  obtain ⟨f0, -⟩ := f_
  obtain ⟨e0, w_⟩ := d_
  subst w_
  have g := rxcMU_0_0 hP hin I0 hinv l8 u8 l9 u9 f0 e0
  refine ⟨bx_narP_ok (l := []) g.1, bx_nfP_ok h0_ (fvs := []) (by decide +kernel) g.2.1, ?_, ?_⟩
  · show rxIMU_1 S0 ws S_p (bx_val [(0, 0), (0, 0), (0, 0), (0, 0), (0, 0), (0, 0), (0, 0), (0, 0), (8, 0)] r_p 8)
    rw [bx_val_x (n := 8) (e := (8, 0)) h0_ rfl]
    exact g.2.2.1
  · show rxmMU_1 S0 ws S_p (bx_val [(0, 0), (0, 0), (0, 0), (0, 0), (0, 0), (0, 0), (0, 0), (0, 0), (8, 0)] r_p 8) < rxmMU_0 S0 ws S_p (r 8)
    rw [bx_val_x (n := 8) (e := (8, 0)) h0_ rfl, ← hr_ 8 (by decide)]
    exact g.2.2.2
theorem rxdMU_0_0 {S0 : Nat → Int → Int} {ws : List Int} {S : Nat → Int → Int} {is x9 x10 : Int} (hP : rxPMU S0 ws) (hin : bx_same rxL (bx_mdl rxCMU.2.2.1) S0 S) (hin2 : bx_same rxL (bx_mdl rxCMU.2.2.1) S (bx_up (bx_up S 480 14 1) 480 13 x10)) (I0 : bx_Inv rxL S) (I1 : bx_Inv rxL (bx_up (bx_up S 480 14 1) 480 13 x10)) (hinv : rxIMU_0 S0 ws S is) (l8 : 0 ≤ is) (u8 : is ≤ 0) (l9 : 0 ≤ x9) (u9 : x9 ≤ 0) (l10 : 0 ≤ x10) (u10 : x10 ≤ 400) (e3 : S 480 14 = x9) (e1 : (bx_up S 480 14 1) 480 9 = x10) : (True) ∧ rxPSMU S0 ws (bx_up (bx_up S 480 14 1) 480 13 x10) none := by
  obtain ⟨rfl, hw⟩ := hinv
  have hT : rxTk S := hP
  have t8 : (bx_up (bx_up S 480 14 1) 480 13 x10) 480 8 = S 480 8 := by simp [bx_up]
  have t9 : (bx_up (bx_up S 480 14 1) 480 13 x10) 480 9 = S 480 9 := by simp [bx_up]
  have t10 : (bx_up (bx_up S 480 14 1) 480 13 x10) 480 10 = S 480 10 := by simp [bx_up]
  have t11 : (bx_up (bx_up S 480 14 1) 480 13 x10) 480 11 = S 480 11 := by simp [bx_up]
  have t12 : (bx_up (bx_up S 480 14 1) 480 13 x10) 480 12 = S 480 12 := by simp [bx_up]
  have t14 : (bx_up (bx_up S 480 14 1) 480 13 x10) 480 14 = 1 := by simp [bx_up]
  refine ⟨trivial, rfl, ?_, is, hw, Or.inr ⟨by omega, by omega, by omega, by omega, by omega, by omega⟩⟩
  unfold rxTk at hT ⊢
  omega
theorem rxfMU_0_0 {X : (Nat → Int → Int) → Prop} {S0 : Nat → Int → Int} {ws : List Int} (hP : rxPMU S0 ws) : bx_obE rxL X S0 rxCMU.2.2.1 (rxIMU S0 ws) (rxPSMU S0 ws) 0 rxzMU_0 rxeMU_0_0 := by
  intro S S_p r r_p hinv hX hin hsm_ hseg
  obtain ⟨I0, I1, h0_, hr_, b_, f_, d_⟩ := bx_cl (evs := [(1, (0, 480), (0, 13), .inr (0, (10, 0))), (0, (0, 480), (0, 9), .inr (0, (10, 0))), (1, (0, 480), (0, 14), .inr (0, (0, 1))), (0, (0, 480), (0, 14), .inr (0, (9, 0)))]) (fvs := []) hseg (by decide +kernel) (by decide +kernel)
  have hinv : rxIMU_0 S0 ws S (r 8) := hinv
  rw [← hr_ 8 (by decide)] at hinv
  obtain ⟨⟨l8, u8⟩, ⟨l9, u9⟩, ⟨l10, u10⟩, -⟩ := b_
  obtain ⟨T0, ⟨e1, ⟨T2, ⟨e3, w_⟩, w2⟩⟩, w0⟩ := d_
  subst w0
  subst w2
  subst w_
  have g := rxdMU_0_0 hP hin hsm_ I0 I1 hinv l8 u8 l9 u9 l10 u10 e3 e1
  refine ⟨bx_narP_ok (l := []) g.1, ?_⟩
  exact g.2
theorem rxdMU_0_1 {S0 : Nat → Int → Int} {ws : List Int} {S : Nat → Int → Int} {is x9 : Int} (hP : rxPMU S0 ws) (hin : bx_same rxL (bx_mdl rxCMU.2.2.1) S0 S) (hin2 : bx_same rxL (bx_mdl rxCMU.2.2.1) S S) (I0 : bx_Inv rxL S) (I1 : bx_Inv rxL S) (hinv : rxIMU_0 S0 ws S is) (l8 : 0 ≤ is) (u8 : is ≤ 1) (l9 : 1 ≤ x9) (u9 : x9 ≤ 1) (f0 : x9 ≠ 0) (e0 : S 480 14 = x9) : (True) ∧ rxPSMU S0 ws S none := by
  obtain ⟨rfl, hw⟩ := hinv
  have hT : rxTk S := hP
  
  refine ⟨trivial, rfl, ?_, is, hw, Or.inr ⟨by omega, by omega, by omega, by omega, by omega, by omega⟩⟩
  unfold rxTk at hT ⊢
  omega
theorem rxfMU_0_1 {X : (Nat → Int → Int) → Prop} {S0 : Nat → Int → Int} {ws : List Int} (hP : rxPMU S0 ws) : bx_obE rxL X S0 rxCMU.2.2.1 (rxIMU S0 ws) (rxPSMU S0 ws) 0 rxzMU_0 rxeMU_0_1 := by
  intro S S_p r r_p hinv hX hin hsm_ hseg
  obtain ⟨I0, I1, h0_, hr_, b_, f_, d_⟩ := bx_cl (evs := [(0, (0, 480), (0, 14), .inr (0, (9, 0)))]) (fvs := [(3, (9, 0), (0, 0), (0, 0))]) hseg (by decide +kernel) (by decide +kernel)
  have hinv : rxIMU_0 S0 ws S (r 8) := hinv
  rw [← hr_ 8 (by decide)] at hinv
  obtain ⟨⟨l8, u8⟩, ⟨l9, u9⟩, -⟩ := b_
  obtain ⟨f0, -⟩ := f_
  obtain ⟨e0, w_⟩ := d_
  subst w_
  have g := rxdMU_0_1 hP hin hsm_ I0 I1 hinv l8 u8 l9 u9 f0 e0
  refine ⟨bx_narP_ok (l := []) g.1, ?_⟩
  exact g.2
theorem rxdMU_2_0 {S0 : Nat → Int → Int} {ws : List Int} {S : Nat → Int → Int} {is : Int} (hP : rxPMU S0 ws) (hin : bx_same rxL (bx_mdl rxCMU.2.2.1) S0 S) (hin2 : bx_same rxL (bx_mdl rxCMU.2.2.1) S S) (I0 : bx_Inv rxL S) (I1 : bx_Inv rxL S) (hinv : rxIMU_2 S0 ws S is) (l8 : 1 ≤ is) (u8 : is ≤ 1) : (True) ∧ rxPSMU S0 ws S none := by
  obtain ⟨h0, h1, hw, h2, h3⟩ := hinv
  exact ⟨trivial, rfl, h2, is, hw, Or.inl ⟨h0, by omega, h1, h3⟩⟩
theorem rxfMU_2_0 {X : (Nat → Int → Int) → Prop} {S0 : Nat → Int → Int} {ws : List Int} (hP : rxPMU S0 ws) : bx_obE rxL X S0 rxCMU.2.2.1 (rxIMU S0 ws) (rxPSMU S0 ws) 2 rxzMU_2 rxeMU_2_0 := by
  intro S S_p r r_p hinv hX hin hsm_ hseg
  obtain ⟨I0, I1, h0_, hr_, b_, f_, d_⟩ := bx_cl (evs := []) (fvs := []) hseg (by decide +kernel) (by decide +kernel)
  have hinv : rxIMU_2 S0 ws S (r 8) := hinv
  rw [← hr_ 8 (by decide)] at hinv
  obtain ⟨⟨l8, u8⟩, -⟩ := b_
  have w_ := d_
  subst w_
  have g := rxdMU_2_0 hP hin hsm_ I0 I1 hinv l8 u8
  refine ⟨bx_narP_ok (l := []) g.1, ?_⟩
  exact g.2
theorem rxgCMU {X : (Nat → Int → Int) → Prop} {S0 : Nat → Int → Int} {ws : List Int} (hP : rxPMU S0 ws) : bx_allI (fun i q => rxUMU q = true ∨ bx_allP (fun o => bx_obC rxL X S0 rxCMU.2.2.1 (rxIMU S0 ws) (rxmMU S0 ws) i q.1 o) q.2.1) 0 rxYMU := ⟨Or.inr ⟨rxgMU_0_0 hP, trivial⟩, Or.inl rfl, Or.inr trivial, trivial⟩
theorem rxgEMU {X : (Nat → Int → Int) → Prop} {S0 : Nat → Int → Int} {ws : List Int} (hP : rxPMU S0 ws) : bx_allI (fun i q => rxUMU q = true ∨ bx_allP (fun E => bx_obE rxL X S0 rxCMU.2.2.1 (rxIMU S0 ws) (rxPSMU S0 ws) i q.1 E) q.2.2) 0 rxYMU := ⟨Or.inr ⟨rxfMU_0_0 hP, rxfMU_0_1 hP, trivial⟩, Or.inl rfl, Or.inr ⟨rxfMU_2_0 hP, trivial⟩, trivial⟩
theorem rxuMU {PX : State → Prop} {Dg : va_G} {A : Nat → Prop} {ad xa : Nat → Nat} {l : Launch} {X : (Nat → Int → Int) → Prop} (hPX : rx_PXOK rxNW A PX) (hX : ∀ S S1 : Nat → Int → Int, X S → bx_same rxL (bx_mdl rxCMU.2.2.1) S S1 → X S1) (hQNX : bx_ConP rxG rxNW rxAO PX Dg rxL X vwCl A ad l rxM264 rxCNX rxPNX rxPSNX) {S0 : Nat → Int → Int} {ws : List Int} (hP : rxPMU S0 ws) : ∀ (i : Nat) (q : bx_HE), rxYMU[i]? = some q → rxUMU q = true → ∀ {p : Program} {e : Env} {R : Room} {s : State} {m : MethodId} {args : Array Value} {below : List Frame} {meth : Method} {c : Code} {Q : State → Prop} {H0 : Heap}, rx_Fr rxG rxNW rxAO PX p s m args meth c rxM265 → (∀ q, H0.size ≤ q → A q) → H0 = s.heap → rxM265.2.2.2.2.2.2.1 ≤ R.cells → rxM265.2.2.2.2.2.2.2 ≤ R.slots → rxCMU.2.2.2.1 ≤ R.frames → rxCMU.2.2.2.1 * 40 ≤ R.locals → bx_Step p l e R s m args below meth c Q Dg rxL X vwCl A xa H0 ad rxM265 rxYMU (rxIMU S0 ws) (rxmMU S0 ws) S0 rxCMU.2.2.1 i q := by
  intro i q hq hus p e R s m args below meth c Q H0 hF hA hH0 hmc hms hd hdl
  match i, hq with
  | 0, hq =>
    cases hq
    exact absurd (show false = true from hus) Bool.false_ne_true
  | 1, hq =>
    cases hq
    exact rx_stepC (ins := .invokevirtual 253) (len := 3) (i_p := 2) (M_p := rxM264) (d := rxCMU.2.2.2.1) (as := [.inr (3, (0, 480))]) (t := []) (ct := rxCNX) hPX hF rfl hA hH0 hmc hms hd hdl (by decide +kernel) rfl rfl (by decide +kernel) (by decide +kernel) hQNX (by decide +kernel) rfl (Or.inl ⟨rfl, rfl, rfl⟩) (rxsMU_1 hP)
  | 2, hq =>
    cases hq
    exact absurd (show false = true from hus) Bool.false_ne_true
  | n + 3, hq => cases hq
theorem rxQMU {PX : State → Prop} {Dg : va_G} {A : Nat → Prop} {ad xa : Nat → Nat} {l : Launch} {X : (Nat → Int → Int) → Prop} (hPX : rx_PXOK rxNW A PX) (hsl : ∀ s : State, PX s → ∀ o idx n : Nat, rxSl o idx = some n → ∃ tx : String, vk_R (rxNm o) idx tx (ad n) s)
    (hX : ∀ S S_p : Nat → Int → Int, X S → bx_same rxL (bx_mdl rxCMU.2.2.1) S S_p → X S_p)
    (ih : ∀ (j2 : Nat) (ct2 : bx_Ct) (M2 : rx_Mt), ct2 ∈ rxCnE j2 → ct2.2.2.2.1 + 1 ≤ rxCMU.2.2.2.1 → rxT.2.2.2.2.2 j2 = some M2 → bx_Con rxG rxNW rxAO PX Dg rxL X vwCl A ad l M2 ct2) (hQNX : bx_ConP rxG rxNW rxAO PX Dg rxL X vwCl A ad l rxM264 rxCNX rxPNX rxPSNX) : bx_ConP rxG rxNW rxAO PX Dg rxL X vwCl A ad l rxM265 rxCMU rxPMU rxPSMU :=
  rxQof (xa := xa) (Cn := rxCnE) (f := 30000) (j := 265) (tab := rxYMU) (us := rxUMU) hPX hsl hX ih rfl rxYcMU rxIMU rxmMU
    (fun S0 ws r I0 I ht0 ht as he he1 hX0 hI0 hP hs ha => by
      have e := he.symm.trans (show bx_ent0 rxNP rxCMU.1 bx_I0 [] = some ([(0, 0), (0, 0), (0, 0), (0, 0), (0, 0), (0, 0), (0, 0), (0, 0), (0, 1)], [], [.inr (3, (0, 480)), .inr (0, (8, 0))]) from rfl)
      cases e
      subst ha
      have h0 : r 0 = 0 := hs.1
      show rxIMU_0 S0 _ S0 (r 8)
      refine ⟨rfl, ?_⟩
      simp only [List.map_cons, List.map_nil, bx_xv_ok h0]
      rfl)
    (fun S0 ws hP => rxuMU (xa := xa) hPX hX hQNX hP) (fun S0 ws hP => rxgCMU hP) (fun S0 ws hP => rxgEMU hP)
end
section
noncomputable def rxCEM : bx_Ct := ([(3, (1, 480, 0)), (0, (0, 0, 30)), (0, (0, 0, 1000))], none, [(12, 18), (1068, 0), (1069, 0)], 0, [])
noncomputable def rxIEM_0 (S0 : Nat → Int → Int) (ws : List Int) (S : Nat → Int → Int) (op arg : Int) : Prop := S = S0 ∧ ws = [480, op, arg]
noncomputable def rxmEM_0 (S0 : Nat → Int → Int) (ws : List Int) (S : Nat → Int → Int) (op arg : Int) : Nat := 100
noncomputable def rxzEM_0 : rx_Z := ([(0, 0), (0, 0), (0, 0), (0, 0), (0, 0), (0, 0), (0, 0), (0, 0), (0, 30), (0, 1000)], [], [], 0, 0, 0, [(0, .inr (3, (0, 480))), (1, .inr (0, (8, 0))), (2, .inr (0, (9, 0)))], [])
noncomputable def rxIEM_1 (S0 : Nat → Int → Int) (ws : List Int) (S : Nat → Int → Int) (op arg n n2 : Int) : Prop := S = S0 ∧ ws = [480, op, arg] ∧ n = S 480 18 ∧ n2 = n
noncomputable def rxmEM_1 (S0 : Nat → Int → Int) (ws : List Int) (S : Nat → Int → Int) (op arg n n2 : Int) : Nat := 90
noncomputable def rxzEM_1 : rx_Z := ([(0, 0), (0, 0), (0, 0), (0, 0), (0, 0), (0, 0), (0, 0), (0, 0), (0, 30), (0, 1000), (0, 399), (0, 399)], [], [(((0, 480), 18), .inr (0, (11, 0)))], 0, 0, 8, [(0, .inr (3, (0, 480))), (1, .inr (0, (8, 0))), (2, .inr (0, (9, 0)))], [.inr (0, (10, 0)), .inr (3, (0, 487))])
noncomputable def rxoEM_0_0 : bx_HO := (([(0, 0), (0, 0), (0, 0), (0, 0), (0, 0), (0, 0), (0, 0), (0, 0), (0, 30), (0, 1000), (0, 400)], [], [(((0, 0), 1851192626986356801037061052538980267039804375195077741805305856000000), .inr (0, (10, 0))), (((0, 480), 18), .inr (0, (10, 0))), (((0, 480), 19), .inr (3, (0, 487)))], 0, 0, 8, [(0, .inr (3, (0, 480))), (1, .inr (0, (8, 0))), (2, .inr (0, (9, 0)))], [.inr (0, (10, 0)), .inr (3, (0, 487))]), [(10, 0, 399), (10, 0, 399)], [], [(0, 0), (0, 0), (0, 0), (0, 0), (0, 0), (0, 0), (0, 0), (0, 0), (8, 0), (9, 0), (10, 0), (10, 0)], 1)
noncomputable def rxeEM_1_0 : rx_End × List (Nat × Int × Int) := (([(0, 0), (0, 0), (0, 0), (0, 0), (0, 0), (0, 0), (0, 0), (0, 0), (0, 30), (0, 1000), (0, 399), (0, 399)], [], [(((0, 0), 1851192626986356801037061052538980267039804375195077741805305859000000), .inr (0, (11, 1))), (((0, 480), 18), .inr (0, (11, 1))), (((0, 0), 1851192626986356797424374018331344491018900889112178922894131203000000), .inr (0, (9, 0))), (((0, 480), 20), .inr (3, (0, 488))), (((0, 0), 1851192626986356797424370955790042202572729718740712036979638275000000), .inr (0, (8, 0)))], none), [])
noncomputable def rxYEM : List bx_HE := [(rxzEM_0, [rxoEM_0_0], []), (rxzEM_1, [], [rxeEM_1_0])]
noncomputable def rxUEM (q : bx_HE) : Bool := false
noncomputable def rxYBEM : bx_B := (rxV, rxNP, rxDmf, bx_mdH rxCEM.2.2.1)
set_option maxRecDepth 100000 in
theorem rxYcEM : bx_chkH rxYBEM rxM266 rxCEM rxYEM (rxUEM, fun cut z => rx_ex2 (rxCT rxYBEM rxCnE) cut 30000 rxCEM.2.2.2.1 266 z) = true := by decide +kernel
noncomputable def rxIEM (S0 : Nat → Int → Int) (ws : List Int) (i : Nat) : bx_SP := fun S r => match i with | 0 => rxIEM_0 S0 ws S (r 8) (r 9) | 1 => rxIEM_1 S0 ws S (r 8) (r 9) (r 10) (r 11) | _ => False
noncomputable def rxmEM (S0 : Nat → Int → Int) (ws : List Int) (i : Nat) (S : Nat → Int → Int) (r : Nat → Int) : Nat := match i with | 0 => rxmEM_0 S0 ws S (r 8) (r 9) | 1 => rxmEM_1 S0 ws S (r 8) (r 9) (r 10) (r 11) | _ => 0
noncomputable def rxPEM (S0 : Nat → Int → Int) (ws : List Int) : Prop := S0 480 18 ≤ 399
noncomputable def rxPSEM (S0 : Nat → Int → Int) (ws : List Int) (S : Nat → Int → Int) (w : Option Int) : Prop := w = none ∧ ∃ op arg : Int, ws = [480, op, arg] ∧ S = bx_up (bx_up (bx_up S0 487 (S0 480 18) op) 488 (S0 480 18) arg) 480 18 (S0 480 18 + 1)
theorem rxcEM_0_0 {S0 : Nat → Int → Int} {ws : List Int} {S : Nat → Int → Int} {op arg x10 : Int} (hP : rxPEM S0 ws) (hin : bx_same rxL (bx_mdl rxCEM.2.2.1) S0 S) (I0 : bx_Inv rxL S) (hinv : rxIEM_0 S0 ws S op arg) (l8 : 0 ≤ op) (u8 : op ≤ 30) (l9 : 0 ≤ arg) (u9 : arg ≤ 1000) (l10 : 0 ≤ x10) (u10 : x10 ≤ 400) (e0 : S 480 18 = x10) : ((0 ≤ x10 ∧ x10 ≤ 399) ∧ (0 ≤ x10 ∧ x10 ≤ 399) ∧ True) ∧ (True) ∧ rxIEM_1 S0 ws S op arg x10 x10 ∧ rxmEM_1 S0 ws S op arg x10 x10 < rxmEM_0 S0 ws S op arg := by
  obtain ⟨rfl, hw⟩ := hinv
  have hP : S 480 18 ≤ 399 := hP
  exact ⟨⟨by omega, by omega, trivial⟩, trivial, ⟨rfl, hw, e0.symm, rfl⟩, by unfold rxmEM_0 rxmEM_1; omega⟩
theorem rxgEM_0_0 {X : (Nat → Int → Int) → Prop} {S0 : Nat → Int → Int} {ws : List Int} (hP : rxPEM S0 ws) : bx_obC rxL X S0 rxCEM.2.2.1 (rxIEM S0 ws) (rxmEM S0 ws) 0 rxzEM_0 rxoEM_0_0 := by
  intro S S_p r r_p hinv hX hin hsm_ hseg
  obtain ⟨I0, I1, h0_, hr_, b_, f_, d_⟩ := bx_cl (evs := [(0, (0, 480), (0, 18), .inr (0, (10, 0)))]) (fvs := []) hseg (by decide +kernel) (by decide +kernel)
  have hinv : rxIEM_0 S0 ws S (r 8) (r 9) := hinv
  rw [← hr_ 8 (by decide), ← hr_ 9 (by decide)] at hinv
  obtain ⟨⟨l8, u8⟩, ⟨l9, u9⟩, ⟨l10, u10⟩, -⟩ := b_
  obtain ⟨e0, w_⟩ := d_
  subst w_
  have g := rxcEM_0_0 hP hin I0 hinv l8 u8 l9 u9 l10 u10 e0
  refine ⟨bx_narP_ok (l := [(10, 0, 399), (10, 0, 399)]) g.1, bx_nfP_ok h0_ (fvs := []) (by decide +kernel) g.2.1, ?_, ?_⟩
  · show rxIEM_1 S0 ws S_p (bx_val [(0, 0), (0, 0), (0, 0), (0, 0), (0, 0), (0, 0), (0, 0), (0, 0), (8, 0), (9, 0), (10, 0), (10, 0)] r_p 8) (bx_val [(0, 0), (0, 0), (0, 0), (0, 0), (0, 0), (0, 0), (0, 0), (0, 0), (8, 0), (9, 0), (10, 0), (10, 0)] r_p 9) (bx_val [(0, 0), (0, 0), (0, 0), (0, 0), (0, 0), (0, 0), (0, 0), (0, 0), (8, 0), (9, 0), (10, 0), (10, 0)] r_p 10) (bx_val [(0, 0), (0, 0), (0, 0), (0, 0), (0, 0), (0, 0), (0, 0), (0, 0), (8, 0), (9, 0), (10, 0), (10, 0)] r_p 11)
    rw [bx_val_x (n := 8) (e := (8, 0)) h0_ rfl, bx_val_x (n := 9) (e := (9, 0)) h0_ rfl, bx_val_x (n := 10) (e := (10, 0)) h0_ rfl, bx_val_x (n := 11) (e := (10, 0)) h0_ rfl]
    exact g.2.2.1
  · show rxmEM_1 S0 ws S_p (bx_val [(0, 0), (0, 0), (0, 0), (0, 0), (0, 0), (0, 0), (0, 0), (0, 0), (8, 0), (9, 0), (10, 0), (10, 0)] r_p 8) (bx_val [(0, 0), (0, 0), (0, 0), (0, 0), (0, 0), (0, 0), (0, 0), (0, 0), (8, 0), (9, 0), (10, 0), (10, 0)] r_p 9) (bx_val [(0, 0), (0, 0), (0, 0), (0, 0), (0, 0), (0, 0), (0, 0), (0, 0), (8, 0), (9, 0), (10, 0), (10, 0)] r_p 10) (bx_val [(0, 0), (0, 0), (0, 0), (0, 0), (0, 0), (0, 0), (0, 0), (0, 0), (8, 0), (9, 0), (10, 0), (10, 0)] r_p 11) < rxmEM_0 S0 ws S_p (r 8) (r 9)
    rw [bx_val_x (n := 8) (e := (8, 0)) h0_ rfl, bx_val_x (n := 9) (e := (9, 0)) h0_ rfl, bx_val_x (n := 10) (e := (10, 0)) h0_ rfl, bx_val_x (n := 11) (e := (10, 0)) h0_ rfl, ← hr_ 8 (by decide), ← hr_ 9 (by decide)]
    exact g.2.2.2
theorem rxdEM_1_0 {S0 : Nat → Int → Int} {ws : List Int} {S : Nat → Int → Int} {op arg n n2 : Int} (hP : rxPEM S0 ws) (hin : bx_same rxL (bx_mdl rxCEM.2.2.1) S0 S) (hin2 : bx_same rxL (bx_mdl rxCEM.2.2.1) S (bx_up (bx_up (bx_up S 487 n op) 488 n2 arg) 480 18 (n2 + 1))) (I0 : bx_Inv rxL S) (I1 : bx_Inv rxL (bx_up (bx_up (bx_up S 487 n op) 488 n2 arg) 480 18 (n2 + 1))) (hinv : rxIEM_1 S0 ws S op arg n n2) (l8 : 0 ≤ op) (u8 : op ≤ 30) (l9 : 0 ≤ arg) (u9 : arg ≤ 1000) (l10 : 0 ≤ n) (u10 : n ≤ 399) (l11 : 0 ≤ n2) (u11 : n2 ≤ 399) : (True) ∧ rxPSEM S0 ws (bx_up (bx_up (bx_up S 487 n op) 488 n2 arg) 480 18 (n2 + 1)) none := by
  obtain ⟨rfl, hw, h1, h2⟩ := hinv
  exact ⟨trivial, rfl, op, arg, hw, by rw [← h1, h2]⟩
theorem rxfEM_1_0 {X : (Nat → Int → Int) → Prop} {S0 : Nat → Int → Int} {ws : List Int} (hP : rxPEM S0 ws) : bx_obE rxL X S0 rxCEM.2.2.1 (rxIEM S0 ws) (rxPSEM S0 ws) 1 rxzEM_1 rxeEM_1_0 := by
  intro S S_p r r_p hinv hX hin hsm_ hseg
  obtain ⟨I0, I1, h0_, hr_, b_, f_, d_⟩ := bx_cl (evs := [(1, (0, 480), (0, 18), .inr (0, (11, 1))), (1, (0, 488), (11, 0), .inr (0, (9, 0))), (1, (0, 487), (10, 0), .inr (0, (8, 0)))]) (fvs := []) hseg (by decide +kernel) (by decide +kernel)
  have hinv : rxIEM_1 S0 ws S (r 8) (r 9) (r 10) (r 11) := hinv
  rw [← hr_ 8 (by decide), ← hr_ 9 (by decide), ← hr_ 10 (by decide), ← hr_ 11 (by decide)] at hinv
  obtain ⟨⟨l8, u8⟩, ⟨l9, u9⟩, ⟨l10, u10⟩, ⟨l11, u11⟩, -⟩ := b_
  obtain ⟨T0, ⟨T1, ⟨T2, w_, w2⟩, w1⟩, w0⟩ := d_
  subst w0
  subst w1
  subst w2
  subst w_
  have g := rxdEM_1_0 hP hin hsm_ I0 I1 hinv l8 u8 l9 u9 l10 u10 l11 u11
  refine ⟨bx_narP_ok (l := []) g.1, ?_⟩
  exact g.2
theorem rxgCEM {X : (Nat → Int → Int) → Prop} {S0 : Nat → Int → Int} {ws : List Int} (hP : rxPEM S0 ws) : bx_allI (fun i q => rxUEM q = true ∨ bx_allP (fun o => bx_obC rxL X S0 rxCEM.2.2.1 (rxIEM S0 ws) (rxmEM S0 ws) i q.1 o) q.2.1) 0 rxYEM := ⟨Or.inr ⟨rxgEM_0_0 hP, trivial⟩, Or.inr trivial, trivial⟩
theorem rxgEEM {X : (Nat → Int → Int) → Prop} {S0 : Nat → Int → Int} {ws : List Int} (hP : rxPEM S0 ws) : bx_allI (fun i q => rxUEM q = true ∨ bx_allP (fun E => bx_obE rxL X S0 rxCEM.2.2.1 (rxIEM S0 ws) (rxPSEM S0 ws) i q.1 E) q.2.2) 0 rxYEM := ⟨Or.inr trivial, Or.inr ⟨rxfEM_1_0 hP, trivial⟩, trivial⟩
theorem rxQEM {PX : State → Prop} {Dg : va_G} {A : Nat → Prop} {ad xa : Nat → Nat} {l : Launch} {X : (Nat → Int → Int) → Prop} (hPX : rx_PXOK rxNW A PX) (hsl : ∀ s : State, PX s → ∀ o idx n : Nat, rxSl o idx = some n → ∃ tx : String, vk_R (rxNm o) idx tx (ad n) s)
    (hX : ∀ S S_p : Nat → Int → Int, X S → bx_same rxL (bx_mdl rxCEM.2.2.1) S S_p → X S_p)
    (ih : ∀ (j2 : Nat) (ct2 : bx_Ct) (M2 : rx_Mt), ct2 ∈ rxCnE j2 → ct2.2.2.2.1 + 1 ≤ rxCEM.2.2.2.1 → rxT.2.2.2.2.2 j2 = some M2 → bx_Con rxG rxNW rxAO PX Dg rxL X vwCl A ad l M2 ct2) : bx_ConP rxG rxNW rxAO PX Dg rxL X vwCl A ad l rxM266 rxCEM rxPEM rxPSEM :=
  rxQof (xa := xa) (Cn := rxCnE) (f := 30000) (j := 266) (tab := rxYEM) (us := rxUEM) hPX hsl hX ih rfl rxYcEM rxIEM rxmEM
    (fun S0 ws r I0 I ht0 ht as he he1 hX0 hI0 hP hs ha => by
      have e := he.symm.trans (show bx_ent0 rxNP rxCEM.1 bx_I0 [] = some ([(0, 0), (0, 0), (0, 0), (0, 0), (0, 0), (0, 0), (0, 0), (0, 0), (0, 30), (0, 1000)], [], [.inr (3, (0, 480)), .inr (0, (8, 0)), .inr (0, (9, 0))]) from rfl)
      cases e
      subst ha
      have h0 : r 0 = 0 := hs.1
      show rxIEM_0 S0 _ S0 (r 8) (r 9)
      refine ⟨rfl, ?_⟩
      simp only [List.map_cons, List.map_nil, bx_xv_ok h0]
      rfl)
    (fun S0 ws hP => fun i q hq hus => absurd (show false = true from hus) Bool.false_ne_true) (fun S0 ws hP => rxgCEM hP) (fun S0 ws hP => rxgEEM hP)
end
section
noncomputable def rxCPU : bx_Ct := ([(3, (1, 480, 0)), (0, (0, 0, 32)), (0, (0, 0, 400))], none, [(12, 24), (1070, 0), (1071, 0)], 0, [])
noncomputable def rxIPU_0 (S0 : Nat → Int → Int) (ws : List Int) (S : Nat → Int → Int) (op at_ : Int) : Prop := S = S0 ∧ ws = [480, op, at_]
noncomputable def rxmPU_0 (S0 : Nat → Int → Int) (ws : List Int) (S : Nat → Int → Int) (op at_ : Int) : Nat := 100
noncomputable def rxzPU_0 : rx_Z := ([(0, 0), (0, 0), (0, 0), (0, 0), (0, 0), (0, 0), (0, 0), (0, 0), (0, 32), (0, 400)], [], [], 0, 0, 0, [(0, .inr (3, (0, 480))), (1, .inr (0, (8, 0))), (2, .inr (0, (9, 0)))], [])
noncomputable def rxIPU_1 (S0 : Nat → Int → Int) (ws : List Int) (S : Nat → Int → Int) (op at_ n n2 : Int) : Prop := S = S0 ∧ ws = [480, op, at_] ∧ n = S 480 24 ∧ n2 = n
noncomputable def rxmPU_1 (S0 : Nat → Int → Int) (ws : List Int) (S : Nat → Int → Int) (op at_ n n2 : Int) : Nat := 90
noncomputable def rxzPU_1 : rx_Z := ([(0, 0), (0, 0), (0, 0), (0, 0), (0, 0), (0, 0), (0, 0), (0, 0), (0, 32), (0, 400), (0, 399), (0, 399)], [], [(((0, 480), 24), .inr (0, (11, 0)))], 0, 0, 8, [(0, .inr (3, (0, 480))), (1, .inr (0, (8, 0))), (2, .inr (0, (9, 0)))], [.inr (0, (10, 0)), .inr (3, (0, 489))])
noncomputable def rxoPU_0_0 : bx_HO := (([(0, 0), (0, 0), (0, 0), (0, 0), (0, 0), (0, 0), (0, 0), (0, 0), (0, 32), (0, 400), (0, 400)], [], [(((0, 0), 1851192626986356802241301293259633916682733161918089263128248320000000), .inr (0, (10, 0))), (((0, 480), 24), .inr (0, (10, 0))), (((0, 480), 22), .inr (3, (0, 489)))], 0, 0, 8, [(0, .inr (3, (0, 480))), (1, .inr (0, (8, 0))), (2, .inr (0, (9, 0)))], [.inr (0, (10, 0)), .inr (3, (0, 489))]), [(10, 0, 399), (10, 0, 399)], [], [(0, 0), (0, 0), (0, 0), (0, 0), (0, 0), (0, 0), (0, 0), (0, 0), (8, 0), (9, 0), (10, 0), (10, 0)], 1)
noncomputable def rxePU_1_0 : rx_End × List (Nat × Int × Int) := (([(0, 0), (0, 0), (0, 0), (0, 0), (0, 0), (0, 0), (0, 0), (0, 0), (0, 32), (0, 400), (0, 399), (0, 399)], [], [(((0, 0), 1851192626986356802241301293259633916682733161918089263128248323000000), .inr (0, (11, 1))), (((0, 480), 24), .inr (0, (11, 1))), (((0, 0), 1851192626986356797424374018331344491018900889112178922895310851000000), .inr (0, (9, 0))), (((0, 480), 23), .inr (3, (0, 490))), (((0, 0), 1851192626986356797424370955790042202572729718740712036980817923000000), .inr (0, (8, 0)))], none), [])
noncomputable def rxYPU : List bx_HE := [(rxzPU_0, [rxoPU_0_0], []), (rxzPU_1, [], [rxePU_1_0])]
noncomputable def rxUPU (q : bx_HE) : Bool := false
noncomputable def rxYBPU : bx_B := (rxV, rxNP, rxDmf, bx_mdH rxCPU.2.2.1)
set_option maxRecDepth 100000 in
theorem rxYcPU : bx_chkH rxYBPU rxM268 rxCPU rxYPU (rxUPU, fun cut z => rx_ex2 (rxCT rxYBPU rxCnE) cut 30000 rxCPU.2.2.2.1 268 z) = true := by decide +kernel
noncomputable def rxIPU (S0 : Nat → Int → Int) (ws : List Int) (i : Nat) : bx_SP := fun S r => match i with | 0 => rxIPU_0 S0 ws S (r 8) (r 9) | 1 => rxIPU_1 S0 ws S (r 8) (r 9) (r 10) (r 11) | _ => False
noncomputable def rxmPU (S0 : Nat → Int → Int) (ws : List Int) (i : Nat) (S : Nat → Int → Int) (r : Nat → Int) : Nat := match i with | 0 => rxmPU_0 S0 ws S (r 8) (r 9) | 1 => rxmPU_1 S0 ws S (r 8) (r 9) (r 10) (r 11) | _ => 0
noncomputable def rxPPU (S0 : Nat → Int → Int) (ws : List Int) : Prop := S0 480 24 ≤ 399
noncomputable def rxPSPU (S0 : Nat → Int → Int) (ws : List Int) (S : Nat → Int → Int) (w : Option Int) : Prop := w = none ∧ ∃ op at_ : Int, ws = [480, op, at_] ∧ S = bx_up (bx_up (bx_up S0 489 (S0 480 24) op) 490 (S0 480 24) at_) 480 24 (S0 480 24 + 1)
theorem rxcPU_0_0 {S0 : Nat → Int → Int} {ws : List Int} {S : Nat → Int → Int} {op at_ x10 : Int} (hP : rxPPU S0 ws) (hin : bx_same rxL (bx_mdl rxCPU.2.2.1) S0 S) (I0 : bx_Inv rxL S) (hinv : rxIPU_0 S0 ws S op at_) (l8 : 0 ≤ op) (u8 : op ≤ 32) (l9 : 0 ≤ at_) (u9 : at_ ≤ 400) (l10 : 0 ≤ x10) (u10 : x10 ≤ 400) (e0 : S 480 24 = x10) : ((0 ≤ x10 ∧ x10 ≤ 399) ∧ (0 ≤ x10 ∧ x10 ≤ 399) ∧ True) ∧ (True) ∧ rxIPU_1 S0 ws S op at_ x10 x10 ∧ rxmPU_1 S0 ws S op at_ x10 x10 < rxmPU_0 S0 ws S op at_ := by
  obtain ⟨rfl, hw⟩ := hinv
  have hP : S 480 24 ≤ 399 := hP
  exact ⟨⟨by omega, by omega, trivial⟩, trivial, ⟨rfl, hw, e0.symm, rfl⟩, by unfold rxmPU_0 rxmPU_1; omega⟩
theorem rxgPU_0_0 {X : (Nat → Int → Int) → Prop} {S0 : Nat → Int → Int} {ws : List Int} (hP : rxPPU S0 ws) : bx_obC rxL X S0 rxCPU.2.2.1 (rxIPU S0 ws) (rxmPU S0 ws) 0 rxzPU_0 rxoPU_0_0 := by
  intro S S_p r r_p hinv hX hin hsm_ hseg
  obtain ⟨I0, I1, h0_, hr_, b_, f_, d_⟩ := bx_cl (evs := [(0, (0, 480), (0, 24), .inr (0, (10, 0)))]) (fvs := []) hseg (by decide +kernel) (by decide +kernel)
  have hinv : rxIPU_0 S0 ws S (r 8) (r 9) := hinv
  rw [← hr_ 8 (by decide), ← hr_ 9 (by decide)] at hinv
  obtain ⟨⟨l8, u8⟩, ⟨l9, u9⟩, ⟨l10, u10⟩, -⟩ := b_
  obtain ⟨e0, w_⟩ := d_
  subst w_
  have g := rxcPU_0_0 hP hin I0 hinv l8 u8 l9 u9 l10 u10 e0
  refine ⟨bx_narP_ok (l := [(10, 0, 399), (10, 0, 399)]) g.1, bx_nfP_ok h0_ (fvs := []) (by decide +kernel) g.2.1, ?_, ?_⟩
  · show rxIPU_1 S0 ws S_p (bx_val [(0, 0), (0, 0), (0, 0), (0, 0), (0, 0), (0, 0), (0, 0), (0, 0), (8, 0), (9, 0), (10, 0), (10, 0)] r_p 8) (bx_val [(0, 0), (0, 0), (0, 0), (0, 0), (0, 0), (0, 0), (0, 0), (0, 0), (8, 0), (9, 0), (10, 0), (10, 0)] r_p 9) (bx_val [(0, 0), (0, 0), (0, 0), (0, 0), (0, 0), (0, 0), (0, 0), (0, 0), (8, 0), (9, 0), (10, 0), (10, 0)] r_p 10) (bx_val [(0, 0), (0, 0), (0, 0), (0, 0), (0, 0), (0, 0), (0, 0), (0, 0), (8, 0), (9, 0), (10, 0), (10, 0)] r_p 11)
    rw [bx_val_x (n := 8) (e := (8, 0)) h0_ rfl, bx_val_x (n := 9) (e := (9, 0)) h0_ rfl, bx_val_x (n := 10) (e := (10, 0)) h0_ rfl, bx_val_x (n := 11) (e := (10, 0)) h0_ rfl]
    exact g.2.2.1
  · show rxmPU_1 S0 ws S_p (bx_val [(0, 0), (0, 0), (0, 0), (0, 0), (0, 0), (0, 0), (0, 0), (0, 0), (8, 0), (9, 0), (10, 0), (10, 0)] r_p 8) (bx_val [(0, 0), (0, 0), (0, 0), (0, 0), (0, 0), (0, 0), (0, 0), (0, 0), (8, 0), (9, 0), (10, 0), (10, 0)] r_p 9) (bx_val [(0, 0), (0, 0), (0, 0), (0, 0), (0, 0), (0, 0), (0, 0), (0, 0), (8, 0), (9, 0), (10, 0), (10, 0)] r_p 10) (bx_val [(0, 0), (0, 0), (0, 0), (0, 0), (0, 0), (0, 0), (0, 0), (0, 0), (8, 0), (9, 0), (10, 0), (10, 0)] r_p 11) < rxmPU_0 S0 ws S_p (r 8) (r 9)
    rw [bx_val_x (n := 8) (e := (8, 0)) h0_ rfl, bx_val_x (n := 9) (e := (9, 0)) h0_ rfl, bx_val_x (n := 10) (e := (10, 0)) h0_ rfl, bx_val_x (n := 11) (e := (10, 0)) h0_ rfl, ← hr_ 8 (by decide), ← hr_ 9 (by decide)]
    exact g.2.2.2
theorem rxdPU_1_0 {S0 : Nat → Int → Int} {ws : List Int} {S : Nat → Int → Int} {op at_ n n2 : Int} (hP : rxPPU S0 ws) (hin : bx_same rxL (bx_mdl rxCPU.2.2.1) S0 S) (hin2 : bx_same rxL (bx_mdl rxCPU.2.2.1) S (bx_up (bx_up (bx_up S 489 n op) 490 n2 at_) 480 24 (n2 + 1))) (I0 : bx_Inv rxL S) (I1 : bx_Inv rxL (bx_up (bx_up (bx_up S 489 n op) 490 n2 at_) 480 24 (n2 + 1))) (hinv : rxIPU_1 S0 ws S op at_ n n2) (l8 : 0 ≤ op) (u8 : op ≤ 32) (l9 : 0 ≤ at_) (u9 : at_ ≤ 400) (l10 : 0 ≤ n) (u10 : n ≤ 399) (l11 : 0 ≤ n2) (u11 : n2 ≤ 399) : (True) ∧ rxPSPU S0 ws (bx_up (bx_up (bx_up S 489 n op) 490 n2 at_) 480 24 (n2 + 1)) none := by
  obtain ⟨rfl, hw, h1, h2⟩ := hinv
  exact ⟨trivial, rfl, op, at_, hw, by rw [← h1, h2]⟩
theorem rxfPU_1_0 {X : (Nat → Int → Int) → Prop} {S0 : Nat → Int → Int} {ws : List Int} (hP : rxPPU S0 ws) : bx_obE rxL X S0 rxCPU.2.2.1 (rxIPU S0 ws) (rxPSPU S0 ws) 1 rxzPU_1 rxePU_1_0 := by
  intro S S_p r r_p hinv hX hin hsm_ hseg
  obtain ⟨I0, I1, h0_, hr_, b_, f_, d_⟩ := bx_cl (evs := [(1, (0, 480), (0, 24), .inr (0, (11, 1))), (1, (0, 490), (11, 0), .inr (0, (9, 0))), (1, (0, 489), (10, 0), .inr (0, (8, 0)))]) (fvs := []) hseg (by decide +kernel) (by decide +kernel)
  have hinv : rxIPU_1 S0 ws S (r 8) (r 9) (r 10) (r 11) := hinv
  rw [← hr_ 8 (by decide), ← hr_ 9 (by decide), ← hr_ 10 (by decide), ← hr_ 11 (by decide)] at hinv
  obtain ⟨⟨l8, u8⟩, ⟨l9, u9⟩, ⟨l10, u10⟩, ⟨l11, u11⟩, -⟩ := b_
  obtain ⟨T0, ⟨T1, ⟨T2, w_, w2⟩, w1⟩, w0⟩ := d_
  subst w0
  subst w1
  subst w2
  subst w_
  have g := rxdPU_1_0 hP hin hsm_ I0 I1 hinv l8 u8 l9 u9 l10 u10 l11 u11
  refine ⟨bx_narP_ok (l := []) g.1, ?_⟩
  exact g.2
theorem rxgCPU {X : (Nat → Int → Int) → Prop} {S0 : Nat → Int → Int} {ws : List Int} (hP : rxPPU S0 ws) : bx_allI (fun i q => rxUPU q = true ∨ bx_allP (fun o => bx_obC rxL X S0 rxCPU.2.2.1 (rxIPU S0 ws) (rxmPU S0 ws) i q.1 o) q.2.1) 0 rxYPU := ⟨Or.inr ⟨rxgPU_0_0 hP, trivial⟩, Or.inr trivial, trivial⟩
theorem rxgEPU {X : (Nat → Int → Int) → Prop} {S0 : Nat → Int → Int} {ws : List Int} (hP : rxPPU S0 ws) : bx_allI (fun i q => rxUPU q = true ∨ bx_allP (fun E => bx_obE rxL X S0 rxCPU.2.2.1 (rxIPU S0 ws) (rxPSPU S0 ws) i q.1 E) q.2.2) 0 rxYPU := ⟨Or.inr trivial, Or.inr ⟨rxfPU_1_0 hP, trivial⟩, trivial⟩
theorem rxQPU {PX : State → Prop} {Dg : va_G} {A : Nat → Prop} {ad xa : Nat → Nat} {l : Launch} {X : (Nat → Int → Int) → Prop} (hPX : rx_PXOK rxNW A PX) (hsl : ∀ s : State, PX s → ∀ o idx n : Nat, rxSl o idx = some n → ∃ tx : String, vk_R (rxNm o) idx tx (ad n) s)
    (hX : ∀ S S_p : Nat → Int → Int, X S → bx_same rxL (bx_mdl rxCPU.2.2.1) S S_p → X S_p)
    (ih : ∀ (j2 : Nat) (ct2 : bx_Ct) (M2 : rx_Mt), ct2 ∈ rxCnE j2 → ct2.2.2.2.1 + 1 ≤ rxCPU.2.2.2.1 → rxT.2.2.2.2.2 j2 = some M2 → bx_Con rxG rxNW rxAO PX Dg rxL X vwCl A ad l M2 ct2) : bx_ConP rxG rxNW rxAO PX Dg rxL X vwCl A ad l rxM268 rxCPU rxPPU rxPSPU :=
  rxQof (xa := xa) (Cn := rxCnE) (f := 30000) (j := 268) (tab := rxYPU) (us := rxUPU) hPX hsl hX ih rfl rxYcPU rxIPU rxmPU
    (fun S0 ws r I0 I ht0 ht as he he1 hX0 hI0 hP hs ha => by
      have e := he.symm.trans (show bx_ent0 rxNP rxCPU.1 bx_I0 [] = some ([(0, 0), (0, 0), (0, 0), (0, 0), (0, 0), (0, 0), (0, 0), (0, 0), (0, 32), (0, 400)], [], [.inr (3, (0, 480)), .inr (0, (8, 0)), .inr (0, (9, 0))]) from rfl)
      cases e
      subst ha
      have h0 : r 0 = 0 := hs.1
      show rxIPU_0 S0 _ S0 (r 8) (r 9)
      refine ⟨rfl, ?_⟩
      simp only [List.map_cons, List.map_nil, bx_xv_ok h0]
      rfl)
    (fun S0 ws hP => fun i q hq hus => absurd (show false = true from hus) Bool.false_ne_true) (fun S0 ws hP => rxgCPU hP) (fun S0 ws hP => rxgEPU hP)
end
section
noncomputable def rxCIN : bx_Ct := ([(3, (1, 480, 0))], some (0, (0, (-1), 32)), [], 0, [])
noncomputable def rxIIN_0 (S0 : Nat → Int → Int) (ws : List Int) (S : Nat → Int → Int) : Prop := S = S0 ∧ ws = [480]
noncomputable def rxmIN_0 (S0 : Nat → Int → Int) (ws : List Int) (S : Nat → Int → Int) : Nat := 10000
noncomputable def rxzIN_0 : rx_Z := ([(0, 0), (0, 0), (0, 0), (0, 0), (0, 0), (0, 0), (0, 0), (0, 0)], [], [], 0, 0, 0, [(0, .inr (3, (0, 480)))], [])
noncomputable def rxIIN_1 (S0 : Nat → Int → Int) (ws : List Int) (S : Nat → Int → Int) (its k : Int) : Prop := S = S0 ∧ ((its = -1 ∧ ∀ j : Int, 0 ≤ j → j < k → S 489 j < 31) ∨ (31 ≤ its ∧ ∃ b : Int, 0 ≤ b ∧ b < k ∧ b < S 480 24 ∧ S 489 b = its ∧ ∀ j : Int, b < j → j < k → S 489 j < 31))
noncomputable def rxmIN_1 (S0 : Nat → Int → Int) (ws : List Int) (S : Nat → Int → Int) (its k : Int) : Nat := 10 * (500 - k).toNat
noncomputable def rxzIN_1 : rx_Z := ([(0, 0), (0, 0), (0, 0), (0, 0), (0, 0), (0, 0), (0, 0), (0, 0), ((-1), 32), (0, 400)], [], [], 0, 0, 4, [(0, .inr (3, (0, 480))), (1, .inr (0, (8, 0))), (2, .inr (0, (9, 0)))], [])
noncomputable def rxoIN_0_0 : bx_HO := (([(0, 0), (0, 0), (0, 0), (0, 0), (0, 0), (0, 0), (0, 0), (0, 0)], [], [], 0, 0, 4, [(2, .inr (0, (0, 0))), (1, .inr (0, (0, (-1)))), (0, .inr (3, (0, 480)))], []), [], [], [(0, 0), (0, 0), (0, 0), (0, 0), (0, 0), (0, 0), (0, 0), (0, 0), (0, (-1)), (0, 0)], 1)
noncomputable def rxoIN_1_0 : bx_HO := (([(0, 0), (0, 0), (0, 0), (0, 0), (0, 0), (0, 0), (0, 0), (0, 0), ((-1), 32), (0, 399), (1, 400), (31, 32), (0, 32)], [(0, (9, 0), (10, 0))], [(((0, 0), 1851192626986356797424367893248739914126558548369245151066914816000000), .inr (0, (12, 0))), (((0, 0), 1851192626986356797424367893248739914126558548369245151066914816000000), .inr (0, (11, 0))), (((0, 480), 22), .inr (3, (0, 489))), (((0, 0), 1851192626986356802241301293259633916682733161918089263128248320000000), .inr (0, (10, 0))), (((0, 480), 24), .inr (0, (10, 0)))], 0, 0, 4, [(2, .inr (0, (9, 1))), (1, .inr (0, (12, 0))), (0, .inr (3, (0, 480)))], []), [], [], [(0, 0), (0, 0), (0, 0), (0, 0), (0, 0), (0, 0), (0, 0), (0, 0), (12, 0), (9, 1)], 1)
noncomputable def rxoIN_1_1 : bx_HO := (([(0, 0), (0, 0), (0, 0), (0, 0), (0, 0), (0, 0), (0, 0), (0, 0), ((-1), 32), (0, 399), (1, 400), (0, 30)], [(0, (9, 0), (10, 0))], [(((0, 0), 1851192626986356797424367893248739914126558548369245151066914816000000), .inr (0, (11, 0))), (((0, 480), 22), .inr (3, (0, 489))), (((0, 0), 1851192626986356802241301293259633916682733161918089263128248320000000), .inr (0, (10, 0))), (((0, 480), 24), .inr (0, (10, 0)))], 0, 0, 4, [(2, .inr (0, (9, 1))), (1, .inr (0, (8, 0))), (0, .inr (3, (0, 480)))], []), [], [], [(0, 0), (0, 0), (0, 0), (0, 0), (0, 0), (0, 0), (0, 0), (0, 0), (8, 0), (9, 1)], 1)
noncomputable def rxeIN_1_0 : rx_End × List (Nat × Int × Int) := (([(0, 0), (0, 0), (0, 0), (0, 0), (0, 0), (0, 0), (0, 0), (0, 0), ((-1), 32), (0, 400), (0, 400)], [(1, (10, 0), (9, 0))], [(((0, 0), 1851192626986356802241301293259633916682733161918089263128248320000000), .inr (0, (10, 0))), (((0, 480), 24), .inr (0, (10, 0)))], some (.inr (0, (8, 0)))), [])
noncomputable def rxYIN : List bx_HE := [(rxzIN_0, [rxoIN_0_0], []), (rxzIN_1, [rxoIN_1_0, rxoIN_1_1], [rxeIN_1_0])]
noncomputable def rxUIN (q : bx_HE) : Bool := false
noncomputable def rxYBIN : bx_B := (rxV, rxNP, rxDmf, bx_mdH rxCIN.2.2.1)
set_option maxRecDepth 100000 in
theorem rxYcIN : bx_chkH rxYBIN rxM276 rxCIN rxYIN (rxUIN, fun cut z => rx_ex2 (rxCT rxYBIN rxCnE) cut 30000 rxCIN.2.2.2.1 276 z) = true := by decide +kernel
noncomputable def rxIIN (S0 : Nat → Int → Int) (ws : List Int) (i : Nat) : bx_SP := fun S r => match i with | 0 => rxIIN_0 S0 ws S | 1 => rxIIN_1 S0 ws S (r 8) (r 9) | _ => False
noncomputable def rxmIN (S0 : Nat → Int → Int) (ws : List Int) (i : Nat) (S : Nat → Int → Int) (r : Nat → Int) : Nat := match i with | 0 => rxmIN_0 S0 ws S | 1 => rxmIN_1 S0 ws S (r 8) (r 9) | _ => 0
noncomputable def rxPIN (S0 : Nat → Int → Int) (ws : List Int) : Prop := True
noncomputable def rxPSIN (S0 : Nat → Int → Int) (ws : List Int) (S : Nat → Int → Int) (w : Option Int) : Prop := S = S0 ∧ ∃ its : Int, w = some its ∧ ((its = -1 ∧ ∀ j : Int, 0 ≤ j → j < S 480 24 → S 489 j < 31) ∨ (31 ≤ its ∧ ∃ b : Int, 0 ≤ b ∧ b < S 480 24 ∧ S 489 b = its ∧ ∀ j : Int, b < j → j < S 480 24 → S 489 j < 31))
theorem rxcIN_0_0 {S0 : Nat → Int → Int} {ws : List Int} {S : Nat → Int → Int} (hP : rxPIN S0 ws) (hin : bx_same rxL (bx_mdl rxCIN.2.2.1) S0 S) (I0 : bx_Inv rxL S) (hinv : rxIIN_0 S0 ws S)  : (True) ∧ (True) ∧ rxIIN_1 S0 ws S ((-1)) 0 ∧ rxmIN_1 S0 ws S ((-1)) 0 < rxmIN_0 S0 ws S := by
  exact ⟨trivial, trivial, ⟨hinv.1, Or.inl ⟨rfl, fun j h1 h2 => by omega⟩⟩, by unfold rxmIN_0 rxmIN_1; omega⟩
theorem rxgIN_0_0 {X : (Nat → Int → Int) → Prop} {S0 : Nat → Int → Int} {ws : List Int} (hP : rxPIN S0 ws) : bx_obC rxL X S0 rxCIN.2.2.1 (rxIIN S0 ws) (rxmIN S0 ws) 0 rxzIN_0 rxoIN_0_0 := by
  intro S S_p r r_p hinv hX hin hsm_ hseg
  obtain ⟨I0, I1, h0_, hr_, b_, f_, d_⟩ := bx_cl (evs := []) (fvs := []) hseg (by decide +kernel) (by decide +kernel)
  have hinv : rxIIN_0 S0 ws S := hinv
  have w_ := d_
  subst w_
  have g := rxcIN_0_0 hP hin I0 hinv 
  refine ⟨bx_narP_ok (l := []) g.1, bx_nfP_ok h0_ (fvs := []) (by decide +kernel) g.2.1, ?_, ?_⟩
  · show rxIIN_1 S0 ws S_p (bx_val [(0, 0), (0, 0), (0, 0), (0, 0), (0, 0), (0, 0), (0, 0), (0, 0), (0, (-1)), (0, 0)] r_p 8) (bx_val [(0, 0), (0, 0), (0, 0), (0, 0), (0, 0), (0, 0), (0, 0), (0, 0), (0, (-1)), (0, 0)] r_p 9)
    rw [bx_val_x (n := 8) (e := (0, (-1))) h0_ rfl, bx_val_x (n := 9) (e := (0, 0)) h0_ rfl]
    exact g.2.2.1
  · show rxmIN_1 S0 ws S_p (bx_val [(0, 0), (0, 0), (0, 0), (0, 0), (0, 0), (0, 0), (0, 0), (0, 0), (0, (-1)), (0, 0)] r_p 8) (bx_val [(0, 0), (0, 0), (0, 0), (0, 0), (0, 0), (0, 0), (0, 0), (0, 0), (0, (-1)), (0, 0)] r_p 9) < rxmIN_0 S0 ws S_p
    rw [bx_val_x (n := 8) (e := (0, (-1))) h0_ rfl, bx_val_x (n := 9) (e := (0, 0)) h0_ rfl]
    exact g.2.2.2
theorem rxcIN_1_0 {S0 : Nat → Int → Int} {ws : List Int} {S : Nat → Int → Int} {its k x10 x11 x12 : Int} (hP : rxPIN S0 ws) (hin : bx_same rxL (bx_mdl rxCIN.2.2.1) S0 S) (I0 : bx_Inv rxL S) (hinv : rxIIN_1 S0 ws S its k) (l8 : (-1) ≤ its) (u8 : its ≤ 32) (l9 : 0 ≤ k) (u9 : k ≤ 399) (l10 : 1 ≤ x10) (u10 : x10 ≤ 400) (l11 : 31 ≤ x11) (u11 : x11 ≤ 32) (l12 : 0 ≤ x12) (u12 : x12 ≤ 32) (f0 : k < x10) (e2 : S 480 24 = x10) (e1 : S 489 k = x11) (e0 : S 489 k = x12) : (True) ∧ (True) ∧ rxIIN_1 S0 ws S x12 (k + 1) ∧ rxmIN_1 S0 ws S x12 (k + 1) < rxmIN_1 S0 ws S its k := by
  obtain ⟨hs, h⟩ := hinv
  have he := e0.symm.trans e1
  refine ⟨trivial, trivial, ⟨hs, Or.inr ⟨by omega, k, by omega, by omega, by omega, by omega, fun j g0 g1 => by omega⟩⟩, by unfold rxmIN_1; omega⟩
theorem rxgIN_1_0 {X : (Nat → Int → Int) → Prop} {S0 : Nat → Int → Int} {ws : List Int} (hP : rxPIN S0 ws) : bx_obC rxL X S0 rxCIN.2.2.1 (rxIIN S0 ws) (rxmIN S0 ws) 1 rxzIN_1 rxoIN_1_0 := by
  intro S S_p r r_p hinv hX hin hsm_ hseg
  obtain ⟨I0, I1, h0_, hr_, b_, f_, d_⟩ := bx_cl (evs := [(0, (0, 489), (9, 0), .inr (0, (12, 0))), (0, (0, 489), (9, 0), .inr (0, (11, 0))), (0, (0, 480), (0, 24), .inr (0, (10, 0)))]) (fvs := [(0, (9, 0), (10, 0), (0, 0))]) hseg (by decide +kernel) (by decide +kernel)
  have hinv : rxIIN_1 S0 ws S (r 8) (r 9) := hinv
  rw [← hr_ 8 (by decide), ← hr_ 9 (by decide)] at hinv
  obtain ⟨⟨l8, u8⟩, ⟨l9, u9⟩, ⟨l10, u10⟩, ⟨l11, u11⟩, ⟨l12, u12⟩, -⟩ := b_
  obtain ⟨f0, -⟩ := f_
  obtain ⟨e0, ⟨e1, ⟨e2, w_⟩⟩⟩ := d_
  subst w_
  have g := rxcIN_1_0 hP hin I0 hinv l8 u8 l9 u9 l10 u10 l11 u11 l12 u12 f0 e2 e1 e0
  refine ⟨bx_narP_ok (l := []) g.1, bx_nfP_ok h0_ (fvs := []) (by decide +kernel) g.2.1, ?_, ?_⟩
  · show rxIIN_1 S0 ws S_p (bx_val [(0, 0), (0, 0), (0, 0), (0, 0), (0, 0), (0, 0), (0, 0), (0, 0), (12, 0), (9, 1)] r_p 8) (bx_val [(0, 0), (0, 0), (0, 0), (0, 0), (0, 0), (0, 0), (0, 0), (0, 0), (12, 0), (9, 1)] r_p 9)
    rw [bx_val_x (n := 8) (e := (12, 0)) h0_ rfl, bx_val_x (n := 9) (e := (9, 1)) h0_ rfl]
    exact g.2.2.1
  · show rxmIN_1 S0 ws S_p (bx_val [(0, 0), (0, 0), (0, 0), (0, 0), (0, 0), (0, 0), (0, 0), (0, 0), (12, 0), (9, 1)] r_p 8) (bx_val [(0, 0), (0, 0), (0, 0), (0, 0), (0, 0), (0, 0), (0, 0), (0, 0), (12, 0), (9, 1)] r_p 9) < rxmIN_1 S0 ws S_p (r 8) (r 9)
    rw [bx_val_x (n := 8) (e := (12, 0)) h0_ rfl, bx_val_x (n := 9) (e := (9, 1)) h0_ rfl, ← hr_ 8 (by decide), ← hr_ 9 (by decide)]
    exact g.2.2.2
theorem rxcIN_1_1 {S0 : Nat → Int → Int} {ws : List Int} {S : Nat → Int → Int} {its k x10 x11 : Int} (hP : rxPIN S0 ws) (hin : bx_same rxL (bx_mdl rxCIN.2.2.1) S0 S) (I0 : bx_Inv rxL S) (hinv : rxIIN_1 S0 ws S its k) (l8 : (-1) ≤ its) (u8 : its ≤ 32) (l9 : 0 ≤ k) (u9 : k ≤ 399) (l10 : 1 ≤ x10) (u10 : x10 ≤ 400) (l11 : 0 ≤ x11) (u11 : x11 ≤ 30) (f0 : k < x10) (e1 : S 480 24 = x10) (e0 : S 489 k = x11) : (True) ∧ (True) ∧ rxIIN_1 S0 ws S its (k + 1) ∧ rxmIN_1 S0 ws S its (k + 1) < rxmIN_1 S0 ws S its k := by
  obtain ⟨hs, h⟩ := hinv
  refine ⟨trivial, trivial, ⟨hs, ?_⟩, by unfold rxmIN_1; omega⟩
  rcases h with ⟨h1, h2⟩ | ⟨h1, b, b0, b1, b2, b3, b4⟩
  · refine Or.inl ⟨h1, fun j g0 g1 => ?_⟩
    by_cases hj : j = k
    · subst hj
      omega
    · exact h2 j g0 (by omega)
  · refine Or.inr ⟨h1, b, b0, by omega, b2, b3, fun j g0 g1 => ?_⟩
    by_cases hj : j = k
    · subst hj
      omega
    · exact b4 j g0 (by omega)
theorem rxgIN_1_1 {X : (Nat → Int → Int) → Prop} {S0 : Nat → Int → Int} {ws : List Int} (hP : rxPIN S0 ws) : bx_obC rxL X S0 rxCIN.2.2.1 (rxIIN S0 ws) (rxmIN S0 ws) 1 rxzIN_1 rxoIN_1_1 := by
  intro S S_p r r_p hinv hX hin hsm_ hseg
  obtain ⟨I0, I1, h0_, hr_, b_, f_, d_⟩ := bx_cl (evs := [(0, (0, 489), (9, 0), .inr (0, (11, 0))), (0, (0, 480), (0, 24), .inr (0, (10, 0)))]) (fvs := [(0, (9, 0), (10, 0), (0, 0))]) hseg (by decide +kernel) (by decide +kernel)
  have hinv : rxIIN_1 S0 ws S (r 8) (r 9) := hinv
  rw [← hr_ 8 (by decide), ← hr_ 9 (by decide)] at hinv
  obtain ⟨⟨l8, u8⟩, ⟨l9, u9⟩, ⟨l10, u10⟩, ⟨l11, u11⟩, -⟩ := b_
  obtain ⟨f0, -⟩ := f_
  obtain ⟨e0, ⟨e1, w_⟩⟩ := d_
  subst w_
  have g := rxcIN_1_1 hP hin I0 hinv l8 u8 l9 u9 l10 u10 l11 u11 f0 e1 e0
  refine ⟨bx_narP_ok (l := []) g.1, bx_nfP_ok h0_ (fvs := []) (by decide +kernel) g.2.1, ?_, ?_⟩
  · show rxIIN_1 S0 ws S_p (bx_val [(0, 0), (0, 0), (0, 0), (0, 0), (0, 0), (0, 0), (0, 0), (0, 0), (8, 0), (9, 1)] r_p 8) (bx_val [(0, 0), (0, 0), (0, 0), (0, 0), (0, 0), (0, 0), (0, 0), (0, 0), (8, 0), (9, 1)] r_p 9)
    rw [bx_val_x (n := 8) (e := (8, 0)) h0_ rfl, bx_val_x (n := 9) (e := (9, 1)) h0_ rfl]
    exact g.2.2.1
  · show rxmIN_1 S0 ws S_p (bx_val [(0, 0), (0, 0), (0, 0), (0, 0), (0, 0), (0, 0), (0, 0), (0, 0), (8, 0), (9, 1)] r_p 8) (bx_val [(0, 0), (0, 0), (0, 0), (0, 0), (0, 0), (0, 0), (0, 0), (0, 0), (8, 0), (9, 1)] r_p 9) < rxmIN_1 S0 ws S_p (r 8) (r 9)
    rw [bx_val_x (n := 8) (e := (8, 0)) h0_ rfl, bx_val_x (n := 9) (e := (9, 1)) h0_ rfl, ← hr_ 8 (by decide), ← hr_ 9 (by decide)]
    exact g.2.2.2
theorem rxdIN_1_0 {S0 : Nat → Int → Int} {ws : List Int} {S : Nat → Int → Int} {its k x10 : Int} (hP : rxPIN S0 ws) (hin : bx_same rxL (bx_mdl rxCIN.2.2.1) S0 S) (hin2 : bx_same rxL (bx_mdl rxCIN.2.2.1) S S) (I0 : bx_Inv rxL S) (I1 : bx_Inv rxL S) (hinv : rxIIN_1 S0 ws S its k) (l8 : (-1) ≤ its) (u8 : its ≤ 32) (l9 : 0 ≤ k) (u9 : k ≤ 400) (l10 : 0 ≤ x10) (u10 : x10 ≤ 400) (f0 : x10 ≤ k) (e0 : S 480 24 = x10) : (True) ∧ rxPSIN S0 ws S (some its) := by
  obtain ⟨hs, h⟩ := hinv
  refine ⟨trivial, hs, its, rfl, ?_⟩
  rcases h with ⟨h1, h2⟩ | ⟨h1, b, b0, b1, b2, b3, b4⟩
  · exact Or.inl ⟨h1, fun j g0 g1 => h2 j g0 (by omega)⟩
  · exact Or.inr ⟨h1, b, b0, b2, b3, fun j g0 g1 => b4 j g0 (by omega)⟩
theorem rxfIN_1_0 {X : (Nat → Int → Int) → Prop} {S0 : Nat → Int → Int} {ws : List Int} (hP : rxPIN S0 ws) : bx_obE rxL X S0 rxCIN.2.2.1 (rxIIN S0 ws) (rxPSIN S0 ws) 1 rxzIN_1 rxeIN_1_0 := by
  intro S S_p r r_p hinv hX hin hsm_ hseg
  obtain ⟨I0, I1, h0_, hr_, b_, f_, d_⟩ := bx_cl (evs := [(0, (0, 480), (0, 24), .inr (0, (10, 0)))]) (fvs := [(1, (10, 0), (9, 0), (0, 0))]) hseg (by decide +kernel) (by decide +kernel)
  have hinv : rxIIN_1 S0 ws S (r 8) (r 9) := hinv
  rw [← hr_ 8 (by decide), ← hr_ 9 (by decide)] at hinv
  obtain ⟨⟨l8, u8⟩, ⟨l9, u9⟩, ⟨l10, u10⟩, -⟩ := b_
  obtain ⟨f0, -⟩ := f_
  obtain ⟨e0, w_⟩ := d_
  subst w_
  have g := rxdIN_1_0 hP hin hsm_ I0 I1 hinv l8 u8 l9 u9 l10 u10 f0 e0
  refine ⟨bx_narP_ok (l := []) g.1, ?_⟩
  show rxPSIN S0 ws S_p (some (bx_num r_p (.inr (0, (8, 0)))))
  rw [bx_xv_ok h0_]
  exact g.2
theorem rxgCIN {X : (Nat → Int → Int) → Prop} {S0 : Nat → Int → Int} {ws : List Int} (hP : rxPIN S0 ws) : bx_allI (fun i q => rxUIN q = true ∨ bx_allP (fun o => bx_obC rxL X S0 rxCIN.2.2.1 (rxIIN S0 ws) (rxmIN S0 ws) i q.1 o) q.2.1) 0 rxYIN := ⟨Or.inr ⟨rxgIN_0_0 hP, trivial⟩, Or.inr ⟨rxgIN_1_0 hP, rxgIN_1_1 hP, trivial⟩, trivial⟩
theorem rxgEIN {X : (Nat → Int → Int) → Prop} {S0 : Nat → Int → Int} {ws : List Int} (hP : rxPIN S0 ws) : bx_allI (fun i q => rxUIN q = true ∨ bx_allP (fun E => bx_obE rxL X S0 rxCIN.2.2.1 (rxIIN S0 ws) (rxPSIN S0 ws) i q.1 E) q.2.2) 0 rxYIN := ⟨Or.inr trivial, Or.inr ⟨rxfIN_1_0 hP, trivial⟩, trivial⟩
theorem rxQIN {PX : State → Prop} {Dg : va_G} {A : Nat → Prop} {ad xa : Nat → Nat} {l : Launch} {X : (Nat → Int → Int) → Prop} (hPX : rx_PXOK rxNW A PX) (hsl : ∀ s : State, PX s → ∀ o idx n : Nat, rxSl o idx = some n → ∃ tx : String, vk_R (rxNm o) idx tx (ad n) s)
    (hX : ∀ S S_p : Nat → Int → Int, X S → bx_same rxL (bx_mdl rxCIN.2.2.1) S S_p → X S_p)
    (ih : ∀ (j2 : Nat) (ct2 : bx_Ct) (M2 : rx_Mt), ct2 ∈ rxCnE j2 → ct2.2.2.2.1 + 1 ≤ rxCIN.2.2.2.1 → rxT.2.2.2.2.2 j2 = some M2 → bx_Con rxG rxNW rxAO PX Dg rxL X vwCl A ad l M2 ct2) : bx_ConP rxG rxNW rxAO PX Dg rxL X vwCl A ad l rxM276 rxCIN rxPIN rxPSIN :=
  rxQof (xa := xa) (Cn := rxCnE) (f := 30000) (j := 276) (tab := rxYIN) (us := rxUIN) hPX hsl hX ih rfl rxYcIN rxIIN rxmIN
    (fun S0 ws r I0 I ht0 ht as he he1 hX0 hI0 hP hs ha => by
      have e := he.symm.trans (show bx_ent0 rxNP rxCIN.1 bx_I0 [] = some ([(0, 0), (0, 0), (0, 0), (0, 0), (0, 0), (0, 0), (0, 0), (0, 0)], [], [.inr (3, (0, 480))]) from rfl)
      cases e
      subst ha
      have h0 : r 0 = 0 := hs.1
      show rxIIN_0 S0 _ S0
      refine ⟨rfl, ?_⟩
      simp only [List.map_cons, List.map_nil, bx_xv_ok h0]
      rfl)
    (fun S0 ws hP => fun i q hq hus => absurd (show false = true from hus) Bool.false_ne_true) (fun S0 ws hP => rxgCIN hP) (fun S0 ws hP => rxgEIN hP)
end
section
noncomputable def rxCIC : bx_Ct := ([(3, (1, 480, 0))], some (0, (0, 0, 1)), [], 1, [])
noncomputable def rxIIC_0 (S0 : Nat → Int → Int) (ws : List Int) (S : Nat → Int → Int) : Prop := S = S0 ∧ ws = [480]
noncomputable def rxmIC_0 (S0 : Nat → Int → Int) (ws : List Int) (S : Nat → Int → Int) : Nat := 10000
noncomputable def rxzIC_0 : rx_Z := ([(0, 0), (0, 0), (0, 0), (0, 0), (0, 0), (0, 0), (0, 0), (0, 0)], [], [], 0, 0, 0, [(0, .inr (3, (0, 480)))], [])
noncomputable def rxIIC_1 (S0 : Nat → Int → Int) (ws : List Int) (S : Nat → Int → Int) (k : Int) : Prop := S = S0
noncomputable def rxmIC_1 (S0 : Nat → Int → Int) (ws : List Int) (S : Nat → Int → Int) (k : Int) : Nat := 10 * (k + 5).toNat
noncomputable def rxzIC_1 : rx_Z := ([(0, 0), (0, 0), (0, 0), (0, 0), (0, 0), (0, 0), (0, 0), (0, 0), ((-1), 399)], [], [], 0, 0, 7, [(0, .inr (3, (0, 480))), (1, .inr (0, (8, 0)))], [])
noncomputable def rxoIC_0_0 : bx_HO := (([(0, 0), (0, 0), (0, 0), (0, 0), (0, 0), (0, 0), (0, 0), (0, 0), (0, 400)], [], [(((0, 0), 1851192626986356802241301293259633916682733161918089263128248320000000), .inr (0, (8, 0))), (((0, 480), 24), .inr (0, (8, 0)))], 0, 0, 7, [(1, .inr (0, (8, (-1)))), (0, .inr (3, (0, 480)))], []), [], [], [(0, 0), (0, 0), (0, 0), (0, 0), (0, 0), (0, 0), (0, 0), (0, 0), (8, (-1))], 1)
noncomputable def rxoIC_1_0 : bx_HO := (([(0, 0), (0, 0), (0, 0), (0, 0), (0, 0), (0, 0), (0, 0), (0, 0), (0, 399), (20, 24)], [], [(((0, 0), 1851192626986356797424364830707437625680387377997778265153011712000000), .inr (0, (9, 0))), (((0, 480), 22), .inr (3, (0, 489)))], 0, 0, 7, [(1, .inr (0, (8, (-1)))), (0, .inr (3, (0, 480)))], []), [], [], [(0, 0), (0, 0), (0, 0), (0, 0), (0, 0), (0, 0), (0, 0), (0, 0), (8, (-1))], 1)
noncomputable def rxeIC_1_0 : rx_End × List (Nat × Int × Int) := (([(0, 0), (0, 0), (0, 0), (0, 0), (0, 0), (0, 0), (0, 0), (0, 0), (0, 399), (0, 19), (0, 24)], [], [(((0, 0), 1851192626986356797424364830707437625680387377997778265153011712000000), .inr (0, (10, 0))), (((0, 0), 1851192626986356797424364830707437625680387377997778265153011712000000), .inr (0, (9, 0))), (((0, 480), 22), .inr (3, (0, 489)))], some (.inr (0, (0, 0)))), [])
noncomputable def rxeIC_1_1 : rx_End × List (Nat × Int × Int) := (([(0, 0), (0, 0), (0, 0), (0, 0), (0, 0), (0, 0), (0, 0), (0, 0), (0, 399), (0, 19), (28, 32)], [], [(((0, 0), 1851192626986356797424364830707437625680387377997778265153011712000000), .inr (0, (10, 0))), (((0, 0), 1851192626986356797424364830707437625680387377997778265153011712000000), .inr (0, (9, 0))), (((0, 480), 22), .inr (3, (0, 489)))], some (.inr (0, (0, 0)))), [])
noncomputable def rxeIC_1_2 : rx_End × List (Nat × Int × Int) := (([(0, 0), (0, 0), (0, 0), (0, 0), (0, 0), (0, 0), (0, 0), (0, 0), (0, 399), (0, 19), (25, 27)], [], [(((0, 0), 1851192626986356797424364830707437625680387377997778265153011712000000), .inr (0, (10, 0))), (((0, 0), 1851192626986356797424364830707437625680387377997778265153011712000000), .inr (0, (9, 0))), (((0, 480), 22), .inr (3, (0, 489)))], some (.inr (0, (0, 1)))), [])
noncomputable def rxeIC_1_3 : rx_End × List (Nat × Int × Int) := (([(0, 0), (0, 0), (0, 0), (0, 0), (0, 0), (0, 0), (0, 0), (0, 0), (0, 399), (25, 32), (0, 24)], [], [(((0, 0), 1851192626986356797424364830707437625680387377997778265153011712000000), .inr (0, (10, 0))), (((0, 0), 1851192626986356797424364830707437625680387377997778265153011712000000), .inr (0, (9, 0))), (((0, 480), 22), .inr (3, (0, 489)))], some (.inr (0, (0, 0)))), [])
noncomputable def rxeIC_1_4 : rx_End × List (Nat × Int × Int) := (([(0, 0), (0, 0), (0, 0), (0, 0), (0, 0), (0, 0), (0, 0), (0, 0), (0, 399), (25, 32), (28, 32)], [], [(((0, 0), 1851192626986356797424364830707437625680387377997778265153011712000000), .inr (0, (10, 0))), (((0, 0), 1851192626986356797424364830707437625680387377997778265153011712000000), .inr (0, (9, 0))), (((0, 480), 22), .inr (3, (0, 489)))], some (.inr (0, (0, 0)))), [])
noncomputable def rxeIC_1_5 : rx_End × List (Nat × Int × Int) := (([(0, 0), (0, 0), (0, 0), (0, 0), (0, 0), (0, 0), (0, 0), (0, 0), (0, 399), (25, 32), (25, 27)], [], [(((0, 0), 1851192626986356797424364830707437625680387377997778265153011712000000), .inr (0, (10, 0))), (((0, 0), 1851192626986356797424364830707437625680387377997778265153011712000000), .inr (0, (9, 0))), (((0, 480), 22), .inr (3, (0, 489)))], some (.inr (0, (0, 1)))), [])
noncomputable def rxeIC_1_6 : rx_End × List (Nat × Int × Int) := (([(0, 0), (0, 0), (0, 0), (0, 0), (0, 0), (0, 0), (0, 0), (0, 0), ((-1), (-1))], [], [], some (.inr (0, (0, 0)))), [])
noncomputable def rxYIC : List bx_HE := [(rxzIC_0, [rxoIC_0_0], []), (rxzIC_1, [rxoIC_1_0], [rxeIC_1_0, rxeIC_1_1, rxeIC_1_2, rxeIC_1_3, rxeIC_1_4, rxeIC_1_5, rxeIC_1_6])]
noncomputable def rxUIC (q : bx_HE) : Bool := false
noncomputable def rxYBIC : bx_B := (rxV, rxNP, rxDmf, bx_mdH rxCIC.2.2.1)
set_option maxRecDepth 100000 in
theorem rxYcIC : bx_chkH rxYBIC rxM277 rxCIC rxYIC (rxUIC, fun cut z => rx_ex2 (rxCT rxYBIC rxCnE) cut 30000 rxCIC.2.2.2.1 277 z) = true := by decide +kernel
noncomputable def rxIIC (S0 : Nat → Int → Int) (ws : List Int) (i : Nat) : bx_SP := fun S r => match i with | 0 => rxIIC_0 S0 ws S | 1 => rxIIC_1 S0 ws S (r 8) | _ => False
noncomputable def rxmIC (S0 : Nat → Int → Int) (ws : List Int) (i : Nat) (S : Nat → Int → Int) (r : Nat → Int) : Nat := match i with | 0 => rxmIC_0 S0 ws S | 1 => rxmIC_1 S0 ws S (r 8) | _ => 0
noncomputable def rxPIC (S0 : Nat → Int → Int) (ws : List Int) : Prop := True
noncomputable def rxPSIC (S0 : Nat → Int → Int) (ws : List Int) (S : Nat → Int → Int) (w : Option Int) : Prop := S = S0
theorem rxcIC_0_0 {S0 : Nat → Int → Int} {ws : List Int} {S : Nat → Int → Int} {x8 : Int} (hP : rxPIC S0 ws) (hin : bx_same rxL (bx_mdl rxCIC.2.2.1) S0 S) (I0 : bx_Inv rxL S) (hinv : rxIIC_0 S0 ws S) (l8 : 0 ≤ x8) (u8 : x8 ≤ 400) (e0 : S 480 24 = x8) : (True) ∧ (True) ∧ rxIIC_1 S0 ws S (x8 + (-1)) ∧ rxmIC_1 S0 ws S (x8 + (-1)) < rxmIC_0 S0 ws S := by
  exact ⟨trivial, trivial, hinv.1, by unfold rxmIC_0 rxmIC_1; omega⟩
theorem rxgIC_0_0 {X : (Nat → Int → Int) → Prop} {S0 : Nat → Int → Int} {ws : List Int} (hP : rxPIC S0 ws) : bx_obC rxL X S0 rxCIC.2.2.1 (rxIIC S0 ws) (rxmIC S0 ws) 0 rxzIC_0 rxoIC_0_0 := by
  intro S S_p r r_p hinv hX hin hsm_ hseg
  obtain ⟨I0, I1, h0_, hr_, b_, f_, d_⟩ := bx_cl (evs := [(0, (0, 480), (0, 24), .inr (0, (8, 0)))]) (fvs := []) hseg (by decide +kernel) (by decide +kernel)
  have hinv : rxIIC_0 S0 ws S := hinv
  obtain ⟨⟨l8, u8⟩, -⟩ := b_
  obtain ⟨e0, w_⟩ := d_
  subst w_
  have g := rxcIC_0_0 hP hin I0 hinv l8 u8 e0
  refine ⟨bx_narP_ok (l := []) g.1, bx_nfP_ok h0_ (fvs := []) (by decide +kernel) g.2.1, ?_, ?_⟩
  · show rxIIC_1 S0 ws S_p (bx_val [(0, 0), (0, 0), (0, 0), (0, 0), (0, 0), (0, 0), (0, 0), (0, 0), (8, (-1))] r_p 8)
    rw [bx_val_x (n := 8) (e := (8, (-1))) h0_ rfl]
    exact g.2.2.1
  · show rxmIC_1 S0 ws S_p (bx_val [(0, 0), (0, 0), (0, 0), (0, 0), (0, 0), (0, 0), (0, 0), (0, 0), (8, (-1))] r_p 8) < rxmIC_0 S0 ws S_p
    rw [bx_val_x (n := 8) (e := (8, (-1))) h0_ rfl]
    exact g.2.2.2
theorem rxcIC_1_0 {S0 : Nat → Int → Int} {ws : List Int} {S : Nat → Int → Int} {k x9 : Int} (hP : rxPIC S0 ws) (hin : bx_same rxL (bx_mdl rxCIC.2.2.1) S0 S) (I0 : bx_Inv rxL S) (hinv : rxIIC_1 S0 ws S k) (l8 : 0 ≤ k) (u8 : k ≤ 399) (l9 : 20 ≤ x9) (u9 : x9 ≤ 24) (e0 : S 489 k = x9) : (True) ∧ (True) ∧ rxIIC_1 S0 ws S (k + (-1)) ∧ rxmIC_1 S0 ws S (k + (-1)) < rxmIC_1 S0 ws S k := by
  exact ⟨trivial, trivial, hinv, by unfold rxmIC_1; omega⟩
theorem rxgIC_1_0 {X : (Nat → Int → Int) → Prop} {S0 : Nat → Int → Int} {ws : List Int} (hP : rxPIC S0 ws) : bx_obC rxL X S0 rxCIC.2.2.1 (rxIIC S0 ws) (rxmIC S0 ws) 1 rxzIC_1 rxoIC_1_0 := by
  intro S S_p r r_p hinv hX hin hsm_ hseg
  obtain ⟨I0, I1, h0_, hr_, b_, f_, d_⟩ := bx_cl (evs := [(0, (0, 489), (8, 0), .inr (0, (9, 0)))]) (fvs := []) hseg (by decide +kernel) (by decide +kernel)
  have hinv : rxIIC_1 S0 ws S (r 8) := hinv
  rw [← hr_ 8 (by decide)] at hinv
  obtain ⟨⟨l8, u8⟩, ⟨l9, u9⟩, -⟩ := b_
  obtain ⟨e0, w_⟩ := d_
  subst w_
  have g := rxcIC_1_0 hP hin I0 hinv l8 u8 l9 u9 e0
  refine ⟨bx_narP_ok (l := []) g.1, bx_nfP_ok h0_ (fvs := []) (by decide +kernel) g.2.1, ?_, ?_⟩
  · show rxIIC_1 S0 ws S_p (bx_val [(0, 0), (0, 0), (0, 0), (0, 0), (0, 0), (0, 0), (0, 0), (0, 0), (8, (-1))] r_p 8)
    rw [bx_val_x (n := 8) (e := (8, (-1))) h0_ rfl]
    exact g.2.2.1
  · show rxmIC_1 S0 ws S_p (bx_val [(0, 0), (0, 0), (0, 0), (0, 0), (0, 0), (0, 0), (0, 0), (0, 0), (8, (-1))] r_p 8) < rxmIC_1 S0 ws S_p (r 8)
    rw [bx_val_x (n := 8) (e := (8, (-1))) h0_ rfl, ← hr_ 8 (by decide)]
    exact g.2.2.2
theorem rxdIC_1_0 {S0 : Nat → Int → Int} {ws : List Int} {S : Nat → Int → Int} {k x9 x10 : Int} (hP : rxPIC S0 ws) (hin : bx_same rxL (bx_mdl rxCIC.2.2.1) S0 S) (hin2 : bx_same rxL (bx_mdl rxCIC.2.2.1) S S) (I0 : bx_Inv rxL S) (I1 : bx_Inv rxL S) (hinv : rxIIC_1 S0 ws S k) (l8 : 0 ≤ k) (u8 : k ≤ 399) (l9 : 0 ≤ x9) (u9 : x9 ≤ 19) (l10 : 0 ≤ x10) (u10 : x10 ≤ 24) (e1 : S 489 k = x9) (e0 : S 489 k = x10) : (True) ∧ rxPSIC S0 ws S (some 0) := by
  exact ⟨trivial, hinv⟩
theorem rxfIC_1_0 {X : (Nat → Int → Int) → Prop} {S0 : Nat → Int → Int} {ws : List Int} (hP : rxPIC S0 ws) : bx_obE rxL X S0 rxCIC.2.2.1 (rxIIC S0 ws) (rxPSIC S0 ws) 1 rxzIC_1 rxeIC_1_0 := by
  intro S S_p r r_p hinv hX hin hsm_ hseg
  obtain ⟨I0, I1, h0_, hr_, b_, f_, d_⟩ := bx_cl (evs := [(0, (0, 489), (8, 0), .inr (0, (10, 0))), (0, (0, 489), (8, 0), .inr (0, (9, 0)))]) (fvs := []) hseg (by decide +kernel) (by decide +kernel)
  have hinv : rxIIC_1 S0 ws S (r 8) := hinv
  rw [← hr_ 8 (by decide)] at hinv
  obtain ⟨⟨l8, u8⟩, ⟨l9, u9⟩, ⟨l10, u10⟩, -⟩ := b_
  obtain ⟨e0, ⟨e1, w_⟩⟩ := d_
  subst w_
  have g := rxdIC_1_0 hP hin hsm_ I0 I1 hinv l8 u8 l9 u9 l10 u10 e1 e0
  refine ⟨bx_narP_ok (l := []) g.1, ?_⟩
  show rxPSIC S0 ws S_p (some (bx_num r_p (.inr (0, (0, 0)))))
  rw [bx_xv_ok h0_]
  exact g.2
theorem rxdIC_1_1 {S0 : Nat → Int → Int} {ws : List Int} {S : Nat → Int → Int} {k x9 x10 : Int} (hP : rxPIC S0 ws) (hin : bx_same rxL (bx_mdl rxCIC.2.2.1) S0 S) (hin2 : bx_same rxL (bx_mdl rxCIC.2.2.1) S S) (I0 : bx_Inv rxL S) (I1 : bx_Inv rxL S) (hinv : rxIIC_1 S0 ws S k) (l8 : 0 ≤ k) (u8 : k ≤ 399) (l9 : 0 ≤ x9) (u9 : x9 ≤ 19) (l10 : 28 ≤ x10) (u10 : x10 ≤ 32) (e1 : S 489 k = x9) (e0 : S 489 k = x10) : (True) ∧ rxPSIC S0 ws S (some 0) := by
  exact ⟨trivial, hinv⟩
theorem rxfIC_1_1 {X : (Nat → Int → Int) → Prop} {S0 : Nat → Int → Int} {ws : List Int} (hP : rxPIC S0 ws) : bx_obE rxL X S0 rxCIC.2.2.1 (rxIIC S0 ws) (rxPSIC S0 ws) 1 rxzIC_1 rxeIC_1_1 := by
  intro S S_p r r_p hinv hX hin hsm_ hseg
  obtain ⟨I0, I1, h0_, hr_, b_, f_, d_⟩ := bx_cl (evs := [(0, (0, 489), (8, 0), .inr (0, (10, 0))), (0, (0, 489), (8, 0), .inr (0, (9, 0)))]) (fvs := []) hseg (by decide +kernel) (by decide +kernel)
  have hinv : rxIIC_1 S0 ws S (r 8) := hinv
  rw [← hr_ 8 (by decide)] at hinv
  obtain ⟨⟨l8, u8⟩, ⟨l9, u9⟩, ⟨l10, u10⟩, -⟩ := b_
  obtain ⟨e0, ⟨e1, w_⟩⟩ := d_
  subst w_
  have g := rxdIC_1_1 hP hin hsm_ I0 I1 hinv l8 u8 l9 u9 l10 u10 e1 e0
  refine ⟨bx_narP_ok (l := []) g.1, ?_⟩
  show rxPSIC S0 ws S_p (some (bx_num r_p (.inr (0, (0, 0)))))
  rw [bx_xv_ok h0_]
  exact g.2
theorem rxdIC_1_2 {S0 : Nat → Int → Int} {ws : List Int} {S : Nat → Int → Int} {k x9 x10 : Int} (hP : rxPIC S0 ws) (hin : bx_same rxL (bx_mdl rxCIC.2.2.1) S0 S) (hin2 : bx_same rxL (bx_mdl rxCIC.2.2.1) S S) (I0 : bx_Inv rxL S) (I1 : bx_Inv rxL S) (hinv : rxIIC_1 S0 ws S k) (l8 : 0 ≤ k) (u8 : k ≤ 399) (l9 : 0 ≤ x9) (u9 : x9 ≤ 19) (l10 : 25 ≤ x10) (u10 : x10 ≤ 27) (e1 : S 489 k = x9) (e0 : S 489 k = x10) : (True) ∧ rxPSIC S0 ws S (some 1) := by
  exact ⟨trivial, hinv⟩
theorem rxfIC_1_2 {X : (Nat → Int → Int) → Prop} {S0 : Nat → Int → Int} {ws : List Int} (hP : rxPIC S0 ws) : bx_obE rxL X S0 rxCIC.2.2.1 (rxIIC S0 ws) (rxPSIC S0 ws) 1 rxzIC_1 rxeIC_1_2 := by
  intro S S_p r r_p hinv hX hin hsm_ hseg
  obtain ⟨I0, I1, h0_, hr_, b_, f_, d_⟩ := bx_cl (evs := [(0, (0, 489), (8, 0), .inr (0, (10, 0))), (0, (0, 489), (8, 0), .inr (0, (9, 0)))]) (fvs := []) hseg (by decide +kernel) (by decide +kernel)
  have hinv : rxIIC_1 S0 ws S (r 8) := hinv
  rw [← hr_ 8 (by decide)] at hinv
  obtain ⟨⟨l8, u8⟩, ⟨l9, u9⟩, ⟨l10, u10⟩, -⟩ := b_
  obtain ⟨e0, ⟨e1, w_⟩⟩ := d_
  subst w_
  have g := rxdIC_1_2 hP hin hsm_ I0 I1 hinv l8 u8 l9 u9 l10 u10 e1 e0
  refine ⟨bx_narP_ok (l := []) g.1, ?_⟩
  show rxPSIC S0 ws S_p (some (bx_num r_p (.inr (0, (0, 1)))))
  rw [bx_xv_ok h0_]
  exact g.2
theorem rxdIC_1_3 {S0 : Nat → Int → Int} {ws : List Int} {S : Nat → Int → Int} {k x9 x10 : Int} (hP : rxPIC S0 ws) (hin : bx_same rxL (bx_mdl rxCIC.2.2.1) S0 S) (hin2 : bx_same rxL (bx_mdl rxCIC.2.2.1) S S) (I0 : bx_Inv rxL S) (I1 : bx_Inv rxL S) (hinv : rxIIC_1 S0 ws S k) (l8 : 0 ≤ k) (u8 : k ≤ 399) (l9 : 25 ≤ x9) (u9 : x9 ≤ 32) (l10 : 0 ≤ x10) (u10 : x10 ≤ 24) (e1 : S 489 k = x9) (e0 : S 489 k = x10) : (True) ∧ rxPSIC S0 ws S (some 0) := by
  exact ⟨trivial, hinv⟩
theorem rxfIC_1_3 {X : (Nat → Int → Int) → Prop} {S0 : Nat → Int → Int} {ws : List Int} (hP : rxPIC S0 ws) : bx_obE rxL X S0 rxCIC.2.2.1 (rxIIC S0 ws) (rxPSIC S0 ws) 1 rxzIC_1 rxeIC_1_3 := by
  intro S S_p r r_p hinv hX hin hsm_ hseg
  obtain ⟨I0, I1, h0_, hr_, b_, f_, d_⟩ := bx_cl (evs := [(0, (0, 489), (8, 0), .inr (0, (10, 0))), (0, (0, 489), (8, 0), .inr (0, (9, 0)))]) (fvs := []) hseg (by decide +kernel) (by decide +kernel)
  have hinv : rxIIC_1 S0 ws S (r 8) := hinv
  rw [← hr_ 8 (by decide)] at hinv
  obtain ⟨⟨l8, u8⟩, ⟨l9, u9⟩, ⟨l10, u10⟩, -⟩ := b_
  obtain ⟨e0, ⟨e1, w_⟩⟩ := d_
  subst w_
  have g := rxdIC_1_3 hP hin hsm_ I0 I1 hinv l8 u8 l9 u9 l10 u10 e1 e0
  refine ⟨bx_narP_ok (l := []) g.1, ?_⟩
  show rxPSIC S0 ws S_p (some (bx_num r_p (.inr (0, (0, 0)))))
  rw [bx_xv_ok h0_]
  exact g.2
theorem rxdIC_1_4 {S0 : Nat → Int → Int} {ws : List Int} {S : Nat → Int → Int} {k x9 x10 : Int} (hP : rxPIC S0 ws) (hin : bx_same rxL (bx_mdl rxCIC.2.2.1) S0 S) (hin2 : bx_same rxL (bx_mdl rxCIC.2.2.1) S S) (I0 : bx_Inv rxL S) (I1 : bx_Inv rxL S) (hinv : rxIIC_1 S0 ws S k) (l8 : 0 ≤ k) (u8 : k ≤ 399) (l9 : 25 ≤ x9) (u9 : x9 ≤ 32) (l10 : 28 ≤ x10) (u10 : x10 ≤ 32) (e1 : S 489 k = x9) (e0 : S 489 k = x10) : (True) ∧ rxPSIC S0 ws S (some 0) := by
  exact ⟨trivial, hinv⟩
theorem rxfIC_1_4 {X : (Nat → Int → Int) → Prop} {S0 : Nat → Int → Int} {ws : List Int} (hP : rxPIC S0 ws) : bx_obE rxL X S0 rxCIC.2.2.1 (rxIIC S0 ws) (rxPSIC S0 ws) 1 rxzIC_1 rxeIC_1_4 := by
  intro S S_p r r_p hinv hX hin hsm_ hseg
  obtain ⟨I0, I1, h0_, hr_, b_, f_, d_⟩ := bx_cl (evs := [(0, (0, 489), (8, 0), .inr (0, (10, 0))), (0, (0, 489), (8, 0), .inr (0, (9, 0)))]) (fvs := []) hseg (by decide +kernel) (by decide +kernel)
  have hinv : rxIIC_1 S0 ws S (r 8) := hinv
  rw [← hr_ 8 (by decide)] at hinv
  obtain ⟨⟨l8, u8⟩, ⟨l9, u9⟩, ⟨l10, u10⟩, -⟩ := b_
  obtain ⟨e0, ⟨e1, w_⟩⟩ := d_
  subst w_
  have g := rxdIC_1_4 hP hin hsm_ I0 I1 hinv l8 u8 l9 u9 l10 u10 e1 e0
  refine ⟨bx_narP_ok (l := []) g.1, ?_⟩
  show rxPSIC S0 ws S_p (some (bx_num r_p (.inr (0, (0, 0)))))
  rw [bx_xv_ok h0_]
  exact g.2
theorem rxdIC_1_5 {S0 : Nat → Int → Int} {ws : List Int} {S : Nat → Int → Int} {k x9 x10 : Int} (hP : rxPIC S0 ws) (hin : bx_same rxL (bx_mdl rxCIC.2.2.1) S0 S) (hin2 : bx_same rxL (bx_mdl rxCIC.2.2.1) S S) (I0 : bx_Inv rxL S) (I1 : bx_Inv rxL S) (hinv : rxIIC_1 S0 ws S k) (l8 : 0 ≤ k) (u8 : k ≤ 399) (l9 : 25 ≤ x9) (u9 : x9 ≤ 32) (l10 : 25 ≤ x10) (u10 : x10 ≤ 27) (e1 : S 489 k = x9) (e0 : S 489 k = x10) : (True) ∧ rxPSIC S0 ws S (some 1) := by
  exact ⟨trivial, hinv⟩
theorem rxfIC_1_5 {X : (Nat → Int → Int) → Prop} {S0 : Nat → Int → Int} {ws : List Int} (hP : rxPIC S0 ws) : bx_obE rxL X S0 rxCIC.2.2.1 (rxIIC S0 ws) (rxPSIC S0 ws) 1 rxzIC_1 rxeIC_1_5 := by
  intro S S_p r r_p hinv hX hin hsm_ hseg
  obtain ⟨I0, I1, h0_, hr_, b_, f_, d_⟩ := bx_cl (evs := [(0, (0, 489), (8, 0), .inr (0, (10, 0))), (0, (0, 489), (8, 0), .inr (0, (9, 0)))]) (fvs := []) hseg (by decide +kernel) (by decide +kernel)
  have hinv : rxIIC_1 S0 ws S (r 8) := hinv
  rw [← hr_ 8 (by decide)] at hinv
  obtain ⟨⟨l8, u8⟩, ⟨l9, u9⟩, ⟨l10, u10⟩, -⟩ := b_
  obtain ⟨e0, ⟨e1, w_⟩⟩ := d_
  subst w_
  have g := rxdIC_1_5 hP hin hsm_ I0 I1 hinv l8 u8 l9 u9 l10 u10 e1 e0
  refine ⟨bx_narP_ok (l := []) g.1, ?_⟩
  show rxPSIC S0 ws S_p (some (bx_num r_p (.inr (0, (0, 1)))))
  rw [bx_xv_ok h0_]
  exact g.2
theorem rxdIC_1_6 {S0 : Nat → Int → Int} {ws : List Int} {S : Nat → Int → Int} {k : Int} (hP : rxPIC S0 ws) (hin : bx_same rxL (bx_mdl rxCIC.2.2.1) S0 S) (hin2 : bx_same rxL (bx_mdl rxCIC.2.2.1) S S) (I0 : bx_Inv rxL S) (I1 : bx_Inv rxL S) (hinv : rxIIC_1 S0 ws S k) (l8 : (-1) ≤ k) (u8 : k ≤ (-1)) : (True) ∧ rxPSIC S0 ws S (some 0) := by
  exact ⟨trivial, hinv⟩
theorem rxfIC_1_6 {X : (Nat → Int → Int) → Prop} {S0 : Nat → Int → Int} {ws : List Int} (hP : rxPIC S0 ws) : bx_obE rxL X S0 rxCIC.2.2.1 (rxIIC S0 ws) (rxPSIC S0 ws) 1 rxzIC_1 rxeIC_1_6 := by
  intro S S_p r r_p hinv hX hin hsm_ hseg
  obtain ⟨I0, I1, h0_, hr_, b_, f_, d_⟩ := bx_cl (evs := []) (fvs := []) hseg (by decide +kernel) (by decide +kernel)
  have hinv : rxIIC_1 S0 ws S (r 8) := hinv
  rw [← hr_ 8 (by decide)] at hinv
  obtain ⟨⟨l8, u8⟩, -⟩ := b_
  have w_ := d_
  subst w_
  have g := rxdIC_1_6 hP hin hsm_ I0 I1 hinv l8 u8
  refine ⟨bx_narP_ok (l := []) g.1, ?_⟩
  show rxPSIC S0 ws S_p (some (bx_num r_p (.inr (0, (0, 0)))))
  rw [bx_xv_ok h0_]
  exact g.2
theorem rxgCIC {X : (Nat → Int → Int) → Prop} {S0 : Nat → Int → Int} {ws : List Int} (hP : rxPIC S0 ws) : bx_allI (fun i q => rxUIC q = true ∨ bx_allP (fun o => bx_obC rxL X S0 rxCIC.2.2.1 (rxIIC S0 ws) (rxmIC S0 ws) i q.1 o) q.2.1) 0 rxYIC := ⟨Or.inr ⟨rxgIC_0_0 hP, trivial⟩, Or.inr ⟨rxgIC_1_0 hP, trivial⟩, trivial⟩
theorem rxgEIC {X : (Nat → Int → Int) → Prop} {S0 : Nat → Int → Int} {ws : List Int} (hP : rxPIC S0 ws) : bx_allI (fun i q => rxUIC q = true ∨ bx_allP (fun E => bx_obE rxL X S0 rxCIC.2.2.1 (rxIIC S0 ws) (rxPSIC S0 ws) i q.1 E) q.2.2) 0 rxYIC := ⟨Or.inr trivial, Or.inr ⟨rxfIC_1_0 hP, rxfIC_1_1 hP, rxfIC_1_2 hP, rxfIC_1_3 hP, rxfIC_1_4 hP, rxfIC_1_5 hP, rxfIC_1_6 hP, trivial⟩, trivial⟩
theorem rxQIC {PX : State → Prop} {Dg : va_G} {A : Nat → Prop} {ad xa : Nat → Nat} {l : Launch} {X : (Nat → Int → Int) → Prop} (hPX : rx_PXOK rxNW A PX) (hsl : ∀ s : State, PX s → ∀ o idx n : Nat, rxSl o idx = some n → ∃ tx : String, vk_R (rxNm o) idx tx (ad n) s)
    (hX : ∀ S S_p : Nat → Int → Int, X S → bx_same rxL (bx_mdl rxCIC.2.2.1) S S_p → X S_p)
    (ih : ∀ (j2 : Nat) (ct2 : bx_Ct) (M2 : rx_Mt), ct2 ∈ rxCnE j2 → ct2.2.2.2.1 + 1 ≤ rxCIC.2.2.2.1 → rxT.2.2.2.2.2 j2 = some M2 → bx_Con rxG rxNW rxAO PX Dg rxL X vwCl A ad l M2 ct2) : bx_ConP rxG rxNW rxAO PX Dg rxL X vwCl A ad l rxM277 rxCIC rxPIC rxPSIC :=
  rxQof (xa := xa) (Cn := rxCnE) (f := 30000) (j := 277) (tab := rxYIC) (us := rxUIC) hPX hsl hX ih rfl rxYcIC rxIIC rxmIC
    (fun S0 ws r I0 I ht0 ht as he he1 hX0 hI0 hP hs ha => by
      have e := he.symm.trans (show bx_ent0 rxNP rxCIC.1 bx_I0 [] = some ([(0, 0), (0, 0), (0, 0), (0, 0), (0, 0), (0, 0), (0, 0), (0, 0)], [], [.inr (3, (0, 480))]) from rfl)
      cases e
      subst ha
      have h0 : r 0 = 0 := hs.1
      show rxIIC_0 S0 _ S0
      refine ⟨rfl, ?_⟩
      simp only [List.map_cons, List.map_nil, bx_xv_ok h0]
      rfl)
    (fun S0 ws hP => fun i q hq hus => absurd (show false = true from hus) Bool.false_ne_true) (fun S0 ws hP => rxgCIC hP) (fun S0 ws hP => rxgEIC hP)
end
