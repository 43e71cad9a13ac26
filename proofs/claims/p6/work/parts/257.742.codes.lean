/-! WHAT A CLAUSE, A LAW TELLS -/
def rkTru (vs : Int → Int) : Option rkC → Prop
  | none => True
  | some d => rkEv d vs 0 [] (some [1])
def rkFal (vs : Int → Int) : Option rkC → Prop
  | none => False
  | some d => rkEv d vs 0 [] none ∨ rkEv d vs 0 [] (some [0])
def rkSum (vs : Int → Int) (o : Option rkC) (r : Option Int) : Prop := ∃ d : rkC, o = some d ∧ ((r = none ∧ rkEv d vs 0 [] none) ∨ ∃ x : Int, r = some x ∧ rkEv d vs 0 [] (some [x]))
theorem rkTF {vs : Int → Int} {o : Option rkC} (h : rkTru vs o) (g : rkFal vs o) : False := by
  cases o with
  | none => exact g
  | some d =>
    have h : rkEv d vs 0 [] (some [1]) := h
    rcases g with g | g
    · cases rkEv_det h g
    · have e := rkEv_det h g
      have e := Option.some.inj e
      have e : (1 : Int) = 0 := List.head_eq_of_cons_eq e
      omega
theorem rkSum_det {vs : Int → Int} {o : Option rkC} {r r_p : Option Int} (h : rkSum vs o r) (h' : rkSum vs o r_p) : r = r_p := by
  obtain ⟨d, e, h⟩ := h
  obtain ⟨d', e', h'⟩ := h'
  subst e
  cases e'
  rcases h with ⟨a, b⟩ | ⟨x, a, b⟩ <;> rcases h' with ⟨a', b_p⟩ | ⟨x', a', b_p⟩
  · rw [a, a']
  · cases rkEv_det b b_p
  · cases rkEv_det b b_p
  · have e := Option.some.inj (rkEv_det b b_p)
    rw [a, a', List.head_eq_of_cons_eq e]
/-- a clause of a law as it may be -/
def rkQl (q : rkQ) : Prop := 0 ≤ q.1 ∧ q.1 ≤ 2 ∧ (q.1 ≠ 2 → ∃ d : rkC, q.2.2.2.1 = some d) ∧ (∀ d : rkC, q.2.2.2.1 = some d → rkWm d false) ∧ ∀ d : rkC, q.2.2.2.2.2 = some d → rkWm d true
def rkLl (L : List rkQ) : Prop := ∀ q ∈ L, rkQl q
/-- asked of one head: the last that holds -/
def rkJ1 (hd : Int) (vs : Int → Int) (q : rkQ) (x z : Int) : Prop := (q.1 ≠ hd ∧ z = x) ∨ (q.1 = hd ∧ ((rkFal vs q.2.2.2.2.2 ∧ z = x) ∨ (rkTru vs q.2.2.2.2.2 ∧ ((hd = 2 ∧ z = 1) ∨ (hd ≠ 2 ∧ ((rkSum vs q.2.2.2.1 none ∧ z = x) ∨ rkSum vs q.2.2.2.1 (some z)))))))
def rkJr (hd : Int) (vs : Int → Int) : List rkQ → Int → Int → Prop
  | [], x, y => y = x
  | q :: L, x, y => ∃ z : Int, rkJ1 hd vs q x z ∧ rkJr hd vs L z y
/-- asked of all three at once -/
def rkNear (v m : Int) : Int := if v < 0 then 0 else if m < v then m else v
abbrev rkH3 := Int × Int × Int
def rkH1 (vs : Int → Int) (q : rkQ) (x z : rkH3) : Prop := (rkFal vs q.2.2.2.2.2 ∧ z = x) ∨ (rkTru vs q.2.2.2.2.2 ∧ ((q.1 = 2 ∧ z = (x.1, x.2.1, 1)) ∨ (q.1 ≠ 2 ∧ ((rkSum vs q.2.2.2.1 none ∧ z = x) ∨ ∃ v : Int, rkSum vs q.2.2.2.1 (some v) ∧ z = (if q.1 = 0 then (rkNear v 100, x.2.1, x.2.2) else (x.1, rkNear v 99, x.2.2))))))
def rkHr (vs : Int → Int) : List rkQ → rkH3 → rkH3 → Prop
  | [], x, y => y = x
  | q :: L, x, y => ∃ z : rkH3, rkH1 vs q x z ∧ rkHr vs L z y
/-- both tell the same -/
theorem rkHJ {vs : Int → Int} {q : rkQ} {x z : rkH3} {a b c a' b_p c' : Int} (hq : rkQl q) (h : rkH1 vs q x z) (h0 : rkJ1 0 vs q a a') (h1 : rkJ1 1 vs q b b_p) (h2 : rkJ1 2 vs q c c') (e0 : x.1 = rkNear a 100) (e1 : x.2.1 = rkNear b 99) (e2 : x.2.2 = c) : z.1 = rkNear a' 100 ∧ z.2.1 = rkNear b_p 99 ∧ z.2.2 = c' := by
  obtain ⟨q0, q2, -⟩ := hq
  have key : ∀ (hd y y' : Int), q.1 ≠ hd → rkJ1 hd vs q y y' → y' = y := fun hd y y' n g => by
    rcases g with g | g
    · exact g.2
    · exact absurd g.1 n
  rcases h with ⟨f, e⟩ | ⟨t, h⟩
  · subst e
    have k : ∀ (hd y y' : Int), rkJ1 hd vs q y y' → y' = y := fun hd y y' g => by
      rcases g with g | ⟨-, g | g⟩
      · exact g.2
      · exact g.2
      · exact (rkTF g.1 f).elim
    rw [k 0 _ _ h0, k 1 _ _ h1, k 2 _ _ h2]
    exact ⟨e0, e1, e2⟩
  · rcases h with ⟨k2, e⟩ | ⟨k2, h⟩
    · subst e
      rw [key 0 _ _ (by omega) h0, key 1 _ _ (by omega) h1]
      refine ⟨e0, e1, ?_⟩
      rcases h2 with g | ⟨-, g | ⟨-, g | g⟩⟩
      · exact absurd k2 g.1
      · exact (rkTF t g.1).elim
      · exact g.2.symm
      · exact absurd rfl g.1
    · rw [key 2 _ _ (by omega) h2]
      have kk : ∀ (hd y y' : Int), q.1 = hd → rkJ1 hd vs q y y' → (rkSum vs q.2.2.2.1 none ∧ y' = y) ∨ rkSum vs q.2.2.2.1 (some y') := fun hd y y' n g => by
        rcases g with g | ⟨-, g | ⟨-, g | g⟩⟩
        · exact absurd n g.1
        · exact (rkTF t g.1).elim
        · exact absurd (n.trans g.1) k2
        · exact g.2
      have k01 : q.1 = 0 ∨ q.1 = 1 := by omega
      rcases h with ⟨s, e⟩ | ⟨v, s, e⟩
      · subst e
        rcases k01 with k | k
        · rw [key 1 _ _ (by omega) h1]
          rcases kk 0 _ _ k h0 with g | g
          · rw [g.2]
            exact ⟨e0, e1, e2⟩
          · cases rkSum_det s g
        · rw [key 0 _ _ (by omega) h0]
          rcases kk 1 _ _ k h1 with g | g
          · rw [g.2]
            exact ⟨e0, e1, e2⟩
          · cases rkSum_det s g
      · subst e
        rcases k01 with k | k
        · rw [key 1 _ _ (by omega) h1, if_pos k]
          rcases kk 0 _ _ k h0 with g | g
          · cases rkSum_det s g.1
          · have e := Option.some.inj (rkSum_det s g)
            rw [← e]
            exact ⟨rfl, e1, e2⟩
        · rw [key 0 _ _ (by omega) h0, if_neg (by omega)]
          rcases kk 1 _ _ k h1 with g | g
          · cases rkSum_det s g.1
          · have e := Option.some.inj (rkSum_det s g)
            rw [← e]
            exact ⟨e0, rfl, e2⟩
theorem rkHJr {vs : Int → Int} : ∀ {L : List rkQ} {x z : rkH3} {a b c a' b_p c' : Int}, rkLl L → rkHr vs L x z → rkJr 0 vs L a a' → rkJr 1 vs L b b_p → rkJr 2 vs L c c' → x.1 = rkNear a 100 → x.2.1 = rkNear b 99 → x.2.2 = c → z.1 = rkNear a' 100 ∧ z.2.1 = rkNear b_p 99 ∧ z.2.2 = c'
  | [], x, z, a, b, c, a', b_p, c', _, h, h0, h1, h2, e0, e1, e2 => by
    have h : z = x := h
    have h0 : a' = a := h0
    have h1 : b_p = b := h1
    have h2 : c' = c := h2
    subst h
    subst h0
    subst h1
    subst h2
    exact ⟨e0, e1, e2⟩
  | q :: L, x, z, a, b, c, a', b_p, c', hl, h, h0, h1, h2, e0, e1, e2 => by
    obtain ⟨y, g, h⟩ := h
    obtain ⟨a2, g0, h0⟩ := h0
    obtain ⟨b2, g1, h1⟩ := h1
    obtain ⟨c2, g2, h2⟩ := h2
    obtain ⟨k0, k1, k2⟩ := rkHJ (hl q (List.mem_cons_self ..)) g g0 g1 g2 e0 e1 e2
    exact rkHJr (fun q_p m => hl q_p (List.mem_cons_of_mem _ m)) h h0 h1 h2 k0 k1 k2
/-- one after another -/
theorem rkJr_go {hd : Int} {vs : Int → Int} {q : rkQ} {L : List rkQ} {x z : Int} {P : Int → Prop} (h : ∀ y : Int, rkJr hd vs (q :: L) x y → P y) (g : rkJ1 hd vs q x z) : ∀ y : Int, rkJr hd vs L z y → P y := fun y k => h y ⟨z, g, k⟩
theorem rkHr_go {vs : Int → Int} {q : rkQ} {L : List rkQ} {x z : rkH3} {P : rkH3 → Prop} (h : ∀ y : rkH3, rkHr vs (q :: L) x y → P y) (g : rkH1 vs q x z) : ∀ y : rkH3, rkHr vs L z y → P y := fun y k => h y ⟨z, g, k⟩
/-! a clause in the reference's row -/
def rqSq (S : Nat → Int → Int) (vs : Int → Int) (start : Int) (q : rkQ) : Prop := (∃ k : Int, start = S 480 28 + 2 + 8 * k ∧ rkCt (S 482) (S 480 28) k q) ∧ rkQl q ∧ S 480 15 = 0 ∧ rkVb vs ∧ ∀ k : Int, 1 ≤ k → k ≤ 8 → S 493 k = vs k
theorem rqSq_cd {S : Nat → Int → Int} {vs : Int → Int} {a e : Int} {b : Bool} {o : Option rkC} (h : rkGt (S 482) (S 480 28) a e o) (h0 : S 480 15 = 0) (hv : rkVb vs) (hs : ∀ k : Int, 1 ≤ k → k ≤ 8 → S 493 k = vs k) (hm : ∀ d : rkC, o = some d → rkWm d b) : ∀ d : rkC, o = some d → a < e ∧ rqHy S vs a e d b := fun d ed => by
  subst ed
  obtain ⟨h1, h2, h3, h4, h5, h6⟩ := h
  refine ⟨by omega, ⟨h1, h3, h4, fun i i0 i1 => ?_⟩, hm d rfl, hv, fun k k0 k1 => ?_⟩
  · unfold rxOpA rxArA
    rw [if_pos h0, if_pos h0]
    exact h6 i i0 i1
  · unfold rqVs
    rw [if_pos h0]
    exact hs k k0 k1
theorem rqSq_c {S S_p : Nat → Int → Int} {vs : Int → Int} {start : Int} {q : rkQ} (h : rqSq S vs start q) (r : ∀ j : Int, 0 ≤ j → j < 6180 → S_p 482 j = S 482 j) (e28 : S_p 480 28 = S 480 28) (e15 : S_p 480 15 = S 480 15) (s : ∀ k : Int, 1 ≤ k → k ≤ 8 → S_p 493 k = S 493 k) (hr : ∃ n k : Int, 0 ≤ n ∧ n ≤ 5 ∧ 0 ≤ k ∧ k < 12 ∧ start = 780 + 900 * n + 2 + 8 * k ∧ S 480 28 = 780 + 900 * n) : rqSq S_p vs start q := by
  obtain ⟨⟨k, h1, h2⟩, h3, h4, h5, h6⟩ := h
  obtain ⟨n, k', n0, n5, k0, k1, hs, hl⟩ := hr
  have ek : k = k' := by omega
  subst ek
  refine ⟨⟨k, by rw [e28]; exact h1, ?_⟩, h3, e15.trans h4, h5, fun i a b => (s i a b).trans (h6 i a b)⟩
  rw [e28]
  have hc := fun (j : Int) (a : S 480 28 ≤ j) (b : j < S 480 28 + 900) => r j (by omega) (by omega)
  obtain ⟨a1, a2, a3⟩ := h2
  exact ⟨(hc _ (by omega) (by omega)).trans a1, by rw [hc _ (by omega) (by omega), hc _ (by omega) (by omega)]; exact rkGt_cg a2 hc, by rw [hc _ (by omega) (by omega), hc _ (by omega) (by omega)]; exact rkGt_cg a3 hc⟩
theorem rqSq_x {S : Nat → Int → Int} {vs : Int → Int} {start : Int} {q : rkQ} (h : rqSq S vs start q) : S 482 start = q.1 ∧ (∀ d : rkC, q.2.2.2.1 = some d → S 482 (start + 3) < S 482 (start + 4) ∧ rqHy S vs (S 482 (start + 3)) (S 482 (start + 4)) d false) ∧ (∀ d : rkC, q.2.2.2.2.2 = some d → S 482 (start + 5) < S 482 (start + 6) ∧ rqHy S vs (S 482 (start + 5)) (S 482 (start + 6)) d true) ∧ (q.2.2.2.2.2 = none → S 482 (start + 6) = S 482 (start + 5)) := by
  obtain ⟨⟨k, h1, g1, g2, g3⟩, h3, h4, h5, h6⟩ := h
  rw [← h1] at g1 g2 g3
  refine ⟨g1, rqSq_cd g2 h4 h5 h6 h3.2.2.2.1, rqSq_cd g3 h4 h5 h6 h3.2.2.2.2, fun e => ?_⟩
  rw [e] at g3
  exact g3
/-- the values asked -/
def rkVv (p m b d pa t y mo : Int) (k : Int) : Int := if k = 1 then p else if k = 2 then m else if k = 3 then b else if k = 4 then d else if k = 5 then pa else if k = 6 then t else if k = 7 then y else mo
theorem rkVv_k {p m b d pa t y mo : Int} {P : Int → Int → Prop} (h1 : P 1 p) (h2 : P 2 m) (h3 : P 3 b) (h4 : P 4 d) (h5 : P 5 pa) (h6 : P 6 t) (h7 : P 7 y) (h8 : P 8 mo) : ∀ k : Int, 1 ≤ k → k ≤ 8 → P k (rkVv p m b d pa t y mo k) := fun k k0 k1 => by
  have e : k = 1 ∨ k = 2 ∨ k = 3 ∨ k = 4 ∨ k = 5 ∨ k = 6 ∨ k = 7 ∨ k = 8 := by omega
  rcases e with rfl | rfl | rfl | rfl | rfl | rfl | rfl | rfl
  · exact h1
  · exact h2
  · exact h3
  · exact h4
  · exact h5
  · exact h6
  · exact h7
  · exact h8
abbrev rqV (S : Nat → Int → Int) (p pa t y : Int) : Int → Int := rkVv p (S 482 (240 + 3 * p)) (S 482 (238 + 3 * p)) (S 482 (239 + 3 * p)) pa t y (S 482 8)
/-- a law is asked: so far -/
def rqTe (S0 S : Nat → Int → Int) (ws : List Int) (kd i val : Int) : Prop := ∃ p pa t y base : Int, ws = [480, kd, p, pa, t, y, base] ∧ S 480 28 = 780 + 900 * S0 482 4 ∧ 0 ≤ S0 482 4 ∧ S0 482 4 ≤ 5 ∧ rkVb (rqV S0 p pa t y) ∧ (∀ k : Int, 1 ≤ k → k ≤ 8 → S 493 k = rqV S0 p pa t y k) ∧ ∀ L : List rkQ, rkTr (S0 482) (S0 482 4) L → rkLl L → ∃ L1 : List rkQ, 0 ≤ i ∧ rkPt (S0 482) (780 + 900 * S0 482 4) i L1 ∧ i + (L1.length : Int) = (L.length : Int) ∧ rkLl L1 ∧ ∀ z : Int, rkJr kd (rqV S0 p pa t y) L1 val z → rkJr kd (rqV S0 p pa t y) L base z
/-- a clause was asked -/
def rqT4 (S0 S : Nat → Int → Int) (ws : List Int) (kd i val so : Int) : Prop := ∃ p pa t y base : Int, ws = [480, kd, p, pa, t, y, base] ∧ S 480 28 = 780 + 900 * S0 482 4 ∧ 0 ≤ S0 482 4 ∧ S0 482 4 ≤ 5 ∧ rkVb (rqV S0 p pa t y) ∧ (∀ k : Int, 1 ≤ k → k ≤ 8 → S 493 k = rqV S0 p pa t y k) ∧ ∀ L : List rkQ, rkTr (S0 482) (S0 482 4) L → rkLl L → ∃ (q : rkQ) (L1 : List rkQ), 0 ≤ i ∧ rkPt (S0 482) (780 + 900 * S0 482 4) (i + 1) L1 ∧ i + 1 + (L1.length : Int) = (L.length : Int) ∧ rkLl L1 ∧ ((so = 0 → rkJ1 kd (rqV S0 p pa t y) q val val) ∧ (so = 1 → kd = 2 → rkJ1 kd (rqV S0 p pa t y) q val 1) ∧ (so = 1 → kd ≠ 2 → rkJ1 kd (rqV S0 p pa t y) q val (S 480 34))) ∧ ∀ z : Int, rkJr kd (rqV S0 p pa t y) (q :: L1) val z → rkJr kd (rqV S0 p pa t y) L base z
theorem rqT4_of {S0 S : Nat → Int → Int} {ws : List Int} {kd i val so x : Int} (h : rqT4 S0 S ws kd i val so) (hx : (so = 0 ∧ x = val) ∨ (so = 1 ∧ kd = 2 ∧ x = 1) ∨ (so = 1 ∧ kd ≠ 2 ∧ x = S 480 34)) : rqTe S0 S ws kd (i + 1) x := by
  obtain ⟨p, pa, t, y, base, h1, h2, h3, h4, h5, h6, h7⟩ := h
  refine ⟨p, pa, t, y, base, h1, h2, h3, h4, h5, h6, fun L hL hl => ?_⟩
  obtain ⟨q, L1, g0, g1, g2, g3, ⟨a1, a2, a3⟩, g4⟩ := h7 L hL hl
  refine ⟨L1, by omega, g1, g2, g3, rkJr_go g4 ?_⟩
  rcases hx with ⟨e1, e2⟩ | ⟨e1, e2, e3⟩ | ⟨e1, e2, e3⟩
  · rw [e2]
    exact a1 e1
  · rw [e3]
    exact a2 e1 e2
  · rw [e3]
    exact a3 e1 e2
/-- one that is of another head -/
theorem rqTe_skip {S0 S : Nat → Int → Int} {ws : List Int} {kd i val : Int} (h : rqTe S0 S ws kd i val) (hi : i < S0 482 (780 + 900 * S0 482 4 + 1)) (hk : S0 482 (780 + 900 * S0 482 4 + 2 + 8 * i) ≠ kd) : rqTe S0 S ws kd (i + 1) val := by
  obtain ⟨p, pa, t, y, base, h1, h2, h3, h4, h5, h6, h7⟩ := h
  refine ⟨p, pa, t, y, base, h1, h2, h3, h4, h5, h6, fun L hL hl => ?_⟩
  obtain ⟨L1, g0, g1, g2, g3, g4⟩ := h7 L hL hl
  have hn := hL.1
  cases L1 with
  | nil =>
    exfalso
    simp only [List.length_nil] at g2
    omega
  | cons q L2 =>
    simp only [List.length_cons] at g2
    exact ⟨L2, by omega, g1.2, by omega, fun q_p m => g3 q_p (List.mem_cons_of_mem _ m), rkJr_go g4 (Or.inl ⟨fun e => hk (g1.1.1.trans e), rfl⟩)⟩
/-- the clause that is asked -/
theorem rqTe_sq {S0 S : Nat → Int → Int} {ws : List Int} {kd i val start : Int} {L : List rkQ} (h : rqTe S0 S ws kd i val) (hi : i < S0 482 (780 + 900 * S0 482 4 + 1)) (hs : start = S 480 28 + 2 + 8 * i) (e15 : S 480 15 = 0) (r : ∀ j : Int, 0 ≤ j → j < 6180 → S 482 j = S0 482 j) (hL : rkTr (S0 482) (S0 482 4) L) (hl : rkLl L) : ∃ (p pa t y base : Int) (q : rkQ) (L2 : List rkQ), ws = [480, kd, p, pa, t, y, base] ∧ rqSq S (rqV S0 p pa t y) start q ∧ 0 ≤ i ∧ rkPt (S0 482) (780 + 900 * S0 482 4) (i + 1) L2 ∧ i + 1 + (L2.length : Int) = (L.length : Int) ∧ rkLl L2 ∧ ∀ z : Int, rkJr kd (rqV S0 p pa t y) (q :: L2) val z → rkJr kd (rqV S0 p pa t y) L base z := by
  obtain ⟨p, pa, t, y, base, h1, h2, h3, h4, h5, h6, h7⟩ := h
  obtain ⟨L1, g0, g1, g2, g3, g4⟩ := h7 L hL hl
  have hn := hL.1
  have hn2 := hL.2.1
  cases L1 with
  | nil =>
    exfalso
    simp only [List.length_nil] at g2
    omega
  | cons q L2 =>
    simp only [List.length_cons] at g2
    refine ⟨p, pa, t, y, base, q, L2, h1, ⟨⟨i, hs, ?_⟩, g3 q (List.mem_cons_self ..), e15, h5, h6⟩, g0, g1.2, by omega, fun q_p m => g3 q_p (List.mem_cons_of_mem _ m), g4⟩
    rw [h2]
    exact (rkPt_cg (L := q :: L2) (fun j a b => r j (by omega) (by omega)) g0 (by simp only [List.length_cons]; omega) g1).1
/-- what the reference's law tells of a head -/
def rqAs (R : Int → Int) (p pa t y hd base x : Int) : Prop := (R 4 = -1 ∧ x = base) ∨ (R 4 ≠ -1 ∧ ∀ L : List rkQ, rkTr R (R 4) L → rkLl L → rkJr hd (rkVv p (R (240 + 3 * p)) (R (238 + 3 * p)) (R (239 + 3 * p)) pa t y (R 8)) L base x)
def rqLp (R : Int → Int) : Prop := R 4 = -1 ∨ ∃ L : List rkQ, rkTr R (R 4) L ∧ rkLl L
theorem rkNear_0 {x m : Int} (h : x < 0) : rkNear x m = 0 := if_pos h
theorem rkNear_m {x m : Int} (h0 : 0 ≤ x) (h : m < x) : rkNear x m = m := (if_neg (by omega)).trans (if_pos h)
theorem rkNear_i {x m : Int} (h0 : 0 ≤ x) (h : x ≤ m) : rkNear x m = x := (if_neg (by omega)).trans (if_neg (by omega))
