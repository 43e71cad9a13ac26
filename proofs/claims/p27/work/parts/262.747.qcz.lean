noncomputable def rxCQCZ : bx_Ct := ([(3, (2, 7, 0)), (3, (2, 7, 0))], none, [(6, 0), (6, 4), (1021, 0), (1022, 0), (1024, 0), (1025, 0), (1026, 0), (1027, 0)], 1, [])
noncomputable def rxIQCZ_0 (S0 : Nat → Int → Int) (ws : List Int) (S : Nat → Int → Int) (pt ps : Int) : Prop := S = S0 ∧ ws = [pt, ps]
noncomputable def rxmQCZ_0 (S0 : Nat → Int → Int) (ws : List Int) (S : Nat → Int → Int) (pt ps : Int) : Nat := 100
noncomputable def rxzQCZ_0 : rx_Z := ([(0, 0), (0, 0), (0, 0), (0, 0), (0, 0), (0, 0), (0, 0), (0, 0), (0, 1522), (0, 1522)], [], [(((9, 0), 1000007), .inl none), (((8, 0), 1000007), .inl none)], 0, 0, 0, [(0, .inr (3, (8, 0))), (1, .inr (3, (9, 0)))], [])
noncomputable def rxIQCZ_1 (S0 : Nat → Int → Int) (ws : List Int) (S : Nat → Int → Int) (pt ps : Int) : Prop := ∃ t s : Nat, pt = (t : Int) ∧ ps = (s : Int) ∧ ws = [(t : Int), (s : Int)] ∧ (t ∈ rkPg ∧ s ∈ rkPg ∧ (t + 10 ≤ s ∨ s + 10 ≤ t)) ∧ S t 0 = S0 s 0 ∧ S t 4 = S0 s 4 ∧ (∀ (p : Nat) (j : Int), p ≠ t → S p j = S0 p j) ∧ (∀ j : Int, j ≠ 0 → j ≠ 4 → S t j = S0 t j)
noncomputable def rxmQCZ_1 (S0 : Nat → Int → Int) (ws : List Int) (S : Nat → Int → Int) (pt ps : Int) : Nat := 90
noncomputable def rxzQCZ_1 : rx_Z := ([(0, 0), (0, 0), (0, 0), (0, 0), (0, 0), (0, 0), (0, 0), (0, 0), (0, 1522), (0, 1522)], [], [(((8, 0), 1000007), .inl none), (((9, 0), 1000007), .inl none)], 0, 0, 29, [(0, .inr (3, (8, 0))), (1, .inr (3, (9, 0)))], [.inr (0, (0, 400)), .inr (0, (0, 0)), .inr (3, (8, 1)), .inr (0, (0, 0)), .inr (3, (9, 1))])
noncomputable def rxIQCZ_2 (S0 : Nat → Int → Int) (ws : List Int) (S : Nat → Int → Int) (pt ps : Int) : Prop := ∃ t s : Nat, pt = (t : Int) ∧ ps = (s : Int) ∧ ws = [(t : Int), (s : Int)] ∧ (t ∈ rkPg ∧ s ∈ rkPg ∧ (t + 10 ≤ s ∨ s + 10 ≤ t)) ∧ S t 0 = S0 s 0 ∧ S t 4 = S0 s 4 ∧ (∀ j : Int, 0 ≤ j → j < 400 → S (t + 1) j = S0 (s + 1) j) ∧ (∀ (p : Nat) (j : Int), p ≠ t → p ≠ t + 1 → S p j = S0 p j) ∧ (∀ j : Int, j ≠ 0 → j ≠ 4 → S t j = S0 t j)
noncomputable def rxmQCZ_2 (S0 : Nat → Int → Int) (ws : List Int) (S : Nat → Int → Int) (pt ps : Int) : Nat := 85
noncomputable def rxzQCZ_2 : rx_Z := ([(0, 0), (0, 0), (0, 0), (0, 0), (0, 0), (0, 0), (0, 0), (0, 0), (0, 1522), (0, 1522)], [], [(((8, 0), 1000007), .inl none), (((9, 0), 1000007), .inl none)], 0, 0, 32, [(0, .inr (3, (8, 0))), (1, .inr (3, (9, 0)))], [])
noncomputable def rxIQCZ_3 (S0 : Nat → Int → Int) (ws : List Int) (S : Nat → Int → Int) (pt ps : Int) : Prop := ∃ t s : Nat, pt = (t : Int) ∧ ps = (s : Int) ∧ ws = [(t : Int), (s : Int)] ∧ (t ∈ rkPg ∧ s ∈ rkPg ∧ (t + 10 ≤ s ∨ s + 10 ≤ t)) ∧ S t 0 = S0 s 0 ∧ S t 4 = S0 s 4 ∧ (∀ j : Int, 0 ≤ j → j < 400 → S (t + 1) j = S0 (s + 1) j) ∧ (∀ (p : Nat) (j : Int), p ≠ t → p ≠ t + 1 → S p j = S0 p j) ∧ (∀ j : Int, j ≠ 0 → j ≠ 4 → S t j = S0 t j)
noncomputable def rxmQCZ_3 (S0 : Nat → Int → Int) (ws : List Int) (S : Nat → Int → Int) (pt ps : Int) : Nat := 80
noncomputable def rxzQCZ_3 : rx_Z := ([(0, 0), (0, 0), (0, 0), (0, 0), (0, 0), (0, 0), (0, 0), (0, 0), (0, 1522), (0, 1522)], [], [(((8, 0), 1000007), .inl none), (((9, 0), 1000007), .inl none)], 0, 0, 45, [(0, .inr (3, (8, 0))), (1, .inr (3, (9, 0)))], [.inr (0, (0, 400)), .inr (0, (0, 0)), .inr (3, (8, 2)), .inr (0, (0, 0)), .inr (3, (9, 2))])
noncomputable def rxIQCZ_4 (S0 : Nat → Int → Int) (ws : List Int) (S : Nat → Int → Int) (pt ps : Int) : Prop := ∃ t s : Nat, pt = (t : Int) ∧ ps = (s : Int) ∧ ws = [(t : Int), (s : Int)] ∧ (t ∈ rkPg ∧ s ∈ rkPg ∧ (t + 10 ≤ s ∨ s + 10 ≤ t)) ∧ S t 0 = S0 s 0 ∧ S t 4 = S0 s 4 ∧ (∀ j : Int, 0 ≤ j → j < 400 → S (t + 1) j = S0 (s + 1) j) ∧ (∀ j : Int, 0 ≤ j → j < 400 → S (t + 2) j = S0 (s + 2) j) ∧ (∀ (p : Nat) (j : Int), p ≠ t → p ≠ t + 1 → p ≠ t + 2 → S p j = S0 p j) ∧ (∀ j : Int, j ≠ 0 → j ≠ 4 → S t j = S0 t j)
noncomputable def rxmQCZ_4 (S0 : Nat → Int → Int) (ws : List Int) (S : Nat → Int → Int) (pt ps : Int) : Nat := 75
noncomputable def rxzQCZ_4 : rx_Z := ([(0, 0), (0, 0), (0, 0), (0, 0), (0, 0), (0, 0), (0, 0), (0, 0), (0, 1522), (0, 1522)], [], [(((8, 0), 1000007), .inl none), (((9, 0), 1000007), .inl none)], 0, 0, 48, [(0, .inr (3, (8, 0))), (1, .inr (3, (9, 0)))], [])
noncomputable def rxIQCZ_5 (S0 : Nat → Int → Int) (ws : List Int) (S : Nat → Int → Int) (pt ps : Int) : Prop := ∃ t s : Nat, pt = (t : Int) ∧ ps = (s : Int) ∧ ws = [(t : Int), (s : Int)] ∧ (t ∈ rkPg ∧ s ∈ rkPg ∧ (t + 10 ≤ s ∨ s + 10 ≤ t)) ∧ S t 0 = S0 s 0 ∧ S t 4 = S0 s 4 ∧ (∀ j : Int, 0 ≤ j → j < 400 → S (t + 1) j = S0 (s + 1) j) ∧ (∀ j : Int, 0 ≤ j → j < 400 → S (t + 2) j = S0 (s + 2) j) ∧ (∀ (p : Nat) (j : Int), p ≠ t → p ≠ t + 1 → p ≠ t + 2 → S p j = S0 p j) ∧ (∀ j : Int, j ≠ 0 → j ≠ 4 → S t j = S0 t j)
noncomputable def rxmQCZ_5 (S0 : Nat → Int → Int) (ws : List Int) (S : Nat → Int → Int) (pt ps : Int) : Nat := 70
noncomputable def rxzQCZ_5 : rx_Z := ([(0, 0), (0, 0), (0, 0), (0, 0), (0, 0), (0, 0), (0, 0), (0, 0), (0, 1522), (0, 1522)], [], [(((8, 0), 1000007), .inl none), (((9, 0), 1000007), .inl none)], 0, 0, 60, [(0, .inr (3, (8, 0))), (1, .inr (3, (9, 0)))], [.inr (0, (0, 12)), .inr (0, (0, 0)), .inr (3, (8, 4)), .inr (0, (0, 0)), .inr (3, (9, 4))])
noncomputable def rxIQCZ_6 (S0 : Nat → Int → Int) (ws : List Int) (S : Nat → Int → Int) (pt ps : Int) : Prop := ∃ t s : Nat, pt = (t : Int) ∧ ps = (s : Int) ∧ ws = [(t : Int), (s : Int)] ∧ (t ∈ rkPg ∧ s ∈ rkPg ∧ (t + 10 ≤ s ∨ s + 10 ≤ t)) ∧ S t 0 = S0 s 0 ∧ S t 4 = S0 s 4 ∧ (∀ j : Int, 0 ≤ j → j < 400 → S (t + 1) j = S0 (s + 1) j) ∧ (∀ j : Int, 0 ≤ j → j < 400 → S (t + 2) j = S0 (s + 2) j) ∧ (∀ j : Int, 0 ≤ j → j < 12 → S (t + 4) j = S0 (s + 4) j) ∧ (∀ (p : Nat) (j : Int), p ≠ t → p ≠ t + 1 → p ≠ t + 2 → p ≠ t + 4 → S p j = S0 p j) ∧ (∀ j : Int, j ≠ 0 → j ≠ 4 → S t j = S0 t j)
noncomputable def rxmQCZ_6 (S0 : Nat → Int → Int) (ws : List Int) (S : Nat → Int → Int) (pt ps : Int) : Nat := 65
noncomputable def rxzQCZ_6 : rx_Z := ([(0, 0), (0, 0), (0, 0), (0, 0), (0, 0), (0, 0), (0, 0), (0, 0), (0, 1522), (0, 1522)], [], [(((8, 0), 1000007), .inl none), (((9, 0), 1000007), .inl none)], 0, 0, 63, [(0, .inr (3, (8, 0))), (1, .inr (3, (9, 0)))], [])
noncomputable def rxIQCZ_7 (S0 : Nat → Int → Int) (ws : List Int) (S : Nat → Int → Int) (pt ps : Int) : Prop := ∃ t s : Nat, pt = (t : Int) ∧ ps = (s : Int) ∧ ws = [(t : Int), (s : Int)] ∧ (t ∈ rkPg ∧ s ∈ rkPg ∧ (t + 10 ≤ s ∨ s + 10 ≤ t)) ∧ S t 0 = S0 s 0 ∧ S t 4 = S0 s 4 ∧ (∀ j : Int, 0 ≤ j → j < 400 → S (t + 1) j = S0 (s + 1) j) ∧ (∀ j : Int, 0 ≤ j → j < 400 → S (t + 2) j = S0 (s + 2) j) ∧ (∀ j : Int, 0 ≤ j → j < 12 → S (t + 4) j = S0 (s + 4) j) ∧ (∀ (p : Nat) (j : Int), p ≠ t → p ≠ t + 1 → p ≠ t + 2 → p ≠ t + 4 → S p j = S0 p j) ∧ (∀ j : Int, j ≠ 0 → j ≠ 4 → S t j = S0 t j)
noncomputable def rxmQCZ_7 (S0 : Nat → Int → Int) (ws : List Int) (S : Nat → Int → Int) (pt ps : Int) : Nat := 60
noncomputable def rxzQCZ_7 : rx_Z := ([(0, 0), (0, 0), (0, 0), (0, 0), (0, 0), (0, 0), (0, 0), (0, 0), (0, 1522), (0, 1522)], [], [(((8, 0), 1000007), .inl none), (((9, 0), 1000007), .inl none)], 0, 0, 75, [(0, .inr (3, (8, 0))), (1, .inr (3, (9, 0)))], [.inr (0, (0, 12)), .inr (0, (0, 0)), .inr (3, (8, 5)), .inr (0, (0, 0)), .inr (3, (9, 5))])
noncomputable def rxIQCZ_8 (S0 : Nat → Int → Int) (ws : List Int) (S : Nat → Int → Int) (pt ps : Int) : Prop := ∃ t s : Nat, pt = (t : Int) ∧ ps = (s : Int) ∧ ws = [(t : Int), (s : Int)] ∧ (t ∈ rkPg ∧ s ∈ rkPg ∧ (t + 10 ≤ s ∨ s + 10 ≤ t)) ∧ S t 0 = S0 s 0 ∧ S t 4 = S0 s 4 ∧ (∀ j : Int, 0 ≤ j → j < 400 → S (t + 1) j = S0 (s + 1) j) ∧ (∀ j : Int, 0 ≤ j → j < 400 → S (t + 2) j = S0 (s + 2) j) ∧ (∀ j : Int, 0 ≤ j → j < 12 → S (t + 4) j = S0 (s + 4) j) ∧ (∀ j : Int, 0 ≤ j → j < 12 → S (t + 5) j = S0 (s + 5) j) ∧ (∀ (p : Nat) (j : Int), p ≠ t → p ≠ t + 1 → p ≠ t + 2 → p ≠ t + 4 → p ≠ t + 5 → S p j = S0 p j) ∧ (∀ j : Int, j ≠ 0 → j ≠ 4 → S t j = S0 t j)
noncomputable def rxmQCZ_8 (S0 : Nat → Int → Int) (ws : List Int) (S : Nat → Int → Int) (pt ps : Int) : Nat := 55
noncomputable def rxzQCZ_8 : rx_Z := ([(0, 0), (0, 0), (0, 0), (0, 0), (0, 0), (0, 0), (0, 0), (0, 0), (0, 1522), (0, 1522)], [], [(((8, 0), 1000007), .inl none), (((9, 0), 1000007), .inl none)], 0, 0, 78, [(0, .inr (3, (8, 0))), (1, .inr (3, (9, 0)))], [])
noncomputable def rxIQCZ_9 (S0 : Nat → Int → Int) (ws : List Int) (S : Nat → Int → Int) (pt ps : Int) : Prop := ∃ t s : Nat, pt = (t : Int) ∧ ps = (s : Int) ∧ ws = [(t : Int), (s : Int)] ∧ (t ∈ rkPg ∧ s ∈ rkPg ∧ (t + 10 ≤ s ∨ s + 10 ≤ t)) ∧ S t 0 = S0 s 0 ∧ S t 4 = S0 s 4 ∧ (∀ j : Int, 0 ≤ j → j < 400 → S (t + 1) j = S0 (s + 1) j) ∧ (∀ j : Int, 0 ≤ j → j < 400 → S (t + 2) j = S0 (s + 2) j) ∧ (∀ j : Int, 0 ≤ j → j < 12 → S (t + 4) j = S0 (s + 4) j) ∧ (∀ j : Int, 0 ≤ j → j < 12 → S (t + 5) j = S0 (s + 5) j) ∧ (∀ (p : Nat) (j : Int), p ≠ t → p ≠ t + 1 → p ≠ t + 2 → p ≠ t + 4 → p ≠ t + 5 → S p j = S0 p j) ∧ (∀ j : Int, j ≠ 0 → j ≠ 4 → S t j = S0 t j)
noncomputable def rxmQCZ_9 (S0 : Nat → Int → Int) (ws : List Int) (S : Nat → Int → Int) (pt ps : Int) : Nat := 50
noncomputable def rxzQCZ_9 : rx_Z := ([(0, 0), (0, 0), (0, 0), (0, 0), (0, 0), (0, 0), (0, 0), (0, 0), (0, 1522), (0, 1522)], [], [(((8, 0), 1000007), .inl none), (((9, 0), 1000007), .inl none)], 0, 0, 90, [(0, .inr (3, (8, 0))), (1, .inr (3, (9, 0)))], [.inr (0, (0, 12)), .inr (0, (0, 0)), .inr (3, (8, 6)), .inr (0, (0, 0)), .inr (3, (9, 6))])
noncomputable def rxIQCZ_10 (S0 : Nat → Int → Int) (ws : List Int) (S : Nat → Int → Int) (pt ps : Int) : Prop := ∃ t s : Nat, pt = (t : Int) ∧ ps = (s : Int) ∧ ws = [(t : Int), (s : Int)] ∧ (t ∈ rkPg ∧ s ∈ rkPg ∧ (t + 10 ≤ s ∨ s + 10 ≤ t)) ∧ S t 0 = S0 s 0 ∧ S t 4 = S0 s 4 ∧ (∀ j : Int, 0 ≤ j → j < 400 → S (t + 1) j = S0 (s + 1) j) ∧ (∀ j : Int, 0 ≤ j → j < 400 → S (t + 2) j = S0 (s + 2) j) ∧ (∀ j : Int, 0 ≤ j → j < 12 → S (t + 4) j = S0 (s + 4) j) ∧ (∀ j : Int, 0 ≤ j → j < 12 → S (t + 5) j = S0 (s + 5) j) ∧ (∀ j : Int, 0 ≤ j → j < 12 → S (t + 6) j = S0 (s + 6) j) ∧ (∀ (p : Nat) (j : Int), p ≠ t → p ≠ t + 1 → p ≠ t + 2 → p ≠ t + 4 → p ≠ t + 5 → p ≠ t + 6 → S p j = S0 p j) ∧ (∀ j : Int, j ≠ 0 → j ≠ 4 → S t j = S0 t j)
noncomputable def rxmQCZ_10 (S0 : Nat → Int → Int) (ws : List Int) (S : Nat → Int → Int) (pt ps : Int) : Nat := 45
noncomputable def rxzQCZ_10 : rx_Z := ([(0, 0), (0, 0), (0, 0), (0, 0), (0, 0), (0, 0), (0, 0), (0, 0), (0, 1522), (0, 1522)], [], [(((8, 0), 1000007), .inl none), (((9, 0), 1000007), .inl none)], 0, 0, 93, [(0, .inr (3, (8, 0))), (1, .inr (3, (9, 0)))], [])
noncomputable def rxIQCZ_11 (S0 : Nat → Int → Int) (ws : List Int) (S : Nat → Int → Int) (pt ps a5_ b5_ : Int) : Prop := ∃ t s : Nat, pt = (t : Int) ∧ ps = (s : Int) ∧ ws = [(t : Int), (s : Int)] ∧ (t ∈ rkPg ∧ s ∈ rkPg ∧ (t + 10 ≤ s ∨ s + 10 ≤ t)) ∧ a5_ = ((s + 7 : Nat) : Int) ∧ b5_ = ((t + 7 : Nat) : Int) ∧ S t 0 = S0 s 0 ∧ S t 4 = S0 s 4 ∧ (∀ j : Int, 0 ≤ j → j < 400 → S (t + 1) j = S0 (s + 1) j) ∧ (∀ j : Int, 0 ≤ j → j < 400 → S (t + 2) j = S0 (s + 2) j) ∧ (∀ j : Int, 0 ≤ j → j < 12 → S (t + 4) j = S0 (s + 4) j) ∧ (∀ j : Int, 0 ≤ j → j < 12 → S (t + 5) j = S0 (s + 5) j) ∧ (∀ j : Int, 0 ≤ j → j < 12 → S (t + 6) j = S0 (s + 6) j) ∧ (∀ (p : Nat) (j : Int), p ≠ t → p ≠ t + 1 → p ≠ t + 2 → p ≠ t + 4 → p ≠ t + 5 → p ≠ t + 6 → S p j = S0 p j) ∧ (∀ j : Int, j ≠ 0 → j ≠ 4 → S t j = S0 t j)
noncomputable def rxmQCZ_11 (S0 : Nat → Int → Int) (ws : List Int) (S : Nat → Int → Int) (pt ps a5_ b5_ : Int) : Nat := 40
noncomputable def rxzQCZ_11 : rx_Z := ([(0, 0), (0, 0), (0, 0), (0, 0), (0, 0), (0, 0), (0, 0), (0, 0), (0, 1522), (0, 1522), (0, 1522), (0, 1522)], [], [(((8, 0), 1000007), .inl none), (((9, 0), 1000007), .inl none), (((10, 0), 1000014), .inl none), (((11, 0), 1000014), .inl none)], 0, 0, 105, [(0, .inr (3, (8, 0))), (1, .inr (3, (9, 0)))], [.inr (0, (0, 12)), .inr (0, (0, 0)), .inr (3, (11, 0)), .inr (0, (0, 0)), .inr (3, (10, 0))])
noncomputable def rxIQCZ_12 (S0 : Nat → Int → Int) (ws : List Int) (S : Nat → Int → Int) (pt ps a5_ b5_ : Int) : Prop := ∃ t s : Nat, pt = (t : Int) ∧ ps = (s : Int) ∧ ws = [(t : Int), (s : Int)] ∧ (t ∈ rkPg ∧ s ∈ rkPg ∧ (t + 10 ≤ s ∨ s + 10 ≤ t)) ∧ S t 0 = S0 s 0 ∧ S t 4 = S0 s 4 ∧ (∀ j : Int, 0 ≤ j → j < 400 → S (t + 1) j = S0 (s + 1) j) ∧ (∀ j : Int, 0 ≤ j → j < 400 → S (t + 2) j = S0 (s + 2) j) ∧ (∀ j : Int, 0 ≤ j → j < 12 → S (t + 4) j = S0 (s + 4) j) ∧ (∀ j : Int, 0 ≤ j → j < 12 → S (t + 5) j = S0 (s + 5) j) ∧ (∀ j : Int, 0 ≤ j → j < 12 → S (t + 6) j = S0 (s + 6) j) ∧ (∀ j : Int, 0 ≤ j → j < 12 → S (t + 7) j = S0 (s + 7) j) ∧ (∀ (p : Nat) (j : Int), p ≠ t → p ≠ t + 1 → p ≠ t + 2 → p ≠ t + 4 → p ≠ t + 5 → p ≠ t + 6 → p ≠ t + 7 → S p j = S0 p j) ∧ (∀ j : Int, j ≠ 0 → j ≠ 4 → S t j = S0 t j)
noncomputable def rxmQCZ_12 (S0 : Nat → Int → Int) (ws : List Int) (S : Nat → Int → Int) (pt ps a5_ b5_ : Int) : Nat := 35
noncomputable def rxzQCZ_12 : rx_Z := ([(0, 0), (0, 0), (0, 0), (0, 0), (0, 0), (0, 0), (0, 0), (0, 0), (0, 1522), (0, 1522), (0, 1522), (0, 1522)], [], [(((8, 0), 1000007), .inl none), (((9, 0), 1000007), .inl none), (((10, 0), 1000014), .inl none), (((11, 0), 1000014), .inl none)], 0, 0, 108, [(0, .inr (3, (8, 0))), (1, .inr (3, (9, 0)))], [])
noncomputable def rxIQCZ_13 (S0 : Nat → Int → Int) (ws : List Int) (S : Nat → Int → Int) (pt ps a6_ b6_ : Int) : Prop := ∃ t s : Nat, pt = (t : Int) ∧ ps = (s : Int) ∧ ws = [(t : Int), (s : Int)] ∧ (t ∈ rkPg ∧ s ∈ rkPg ∧ (t + 10 ≤ s ∨ s + 10 ≤ t)) ∧ a6_ = ((s + 8 : Nat) : Int) ∧ b6_ = ((t + 8 : Nat) : Int) ∧ S t 0 = S0 s 0 ∧ S t 4 = S0 s 4 ∧ (∀ j : Int, 0 ≤ j → j < 400 → S (t + 1) j = S0 (s + 1) j) ∧ (∀ j : Int, 0 ≤ j → j < 400 → S (t + 2) j = S0 (s + 2) j) ∧ (∀ j : Int, 0 ≤ j → j < 12 → S (t + 4) j = S0 (s + 4) j) ∧ (∀ j : Int, 0 ≤ j → j < 12 → S (t + 5) j = S0 (s + 5) j) ∧ (∀ j : Int, 0 ≤ j → j < 12 → S (t + 6) j = S0 (s + 6) j) ∧ (∀ j : Int, 0 ≤ j → j < 12 → S (t + 7) j = S0 (s + 7) j) ∧ (∀ (p : Nat) (j : Int), p ≠ t → p ≠ t + 1 → p ≠ t + 2 → p ≠ t + 4 → p ≠ t + 5 → p ≠ t + 6 → p ≠ t + 7 → S p j = S0 p j) ∧ (∀ j : Int, j ≠ 0 → j ≠ 4 → S t j = S0 t j)
noncomputable def rxmQCZ_13 (S0 : Nat → Int → Int) (ws : List Int) (S : Nat → Int → Int) (pt ps a6_ b6_ : Int) : Nat := 30
noncomputable def rxzQCZ_13 : rx_Z := ([(0, 0), (0, 0), (0, 0), (0, 0), (0, 0), (0, 0), (0, 0), (0, 0), (0, 1522), (0, 1522), (0, 1522), (0, 1522)], [], [(((8, 0), 1000007), .inl none), (((9, 0), 1000007), .inl none), (((10, 0), 1000014), .inl none), (((11, 0), 1000014), .inl none)], 0, 0, 120, [(0, .inr (3, (8, 0))), (1, .inr (3, (9, 0)))], [.inr (0, (0, 12)), .inr (0, (0, 0)), .inr (3, (11, 0)), .inr (0, (0, 0)), .inr (3, (10, 0))])
noncomputable def rxIQCZ_14 (S0 : Nat → Int → Int) (ws : List Int) (S : Nat → Int → Int) (pt ps a6_ b6_ : Int) : Prop := ∃ t s : Nat, pt = (t : Int) ∧ ps = (s : Int) ∧ ws = [(t : Int), (s : Int)] ∧ (t ∈ rkPg ∧ s ∈ rkPg ∧ (t + 10 ≤ s ∨ s + 10 ≤ t)) ∧ S t 0 = S0 s 0 ∧ S t 4 = S0 s 4 ∧ (∀ j : Int, 0 ≤ j → j < 400 → S (t + 1) j = S0 (s + 1) j) ∧ (∀ j : Int, 0 ≤ j → j < 400 → S (t + 2) j = S0 (s + 2) j) ∧ (∀ j : Int, 0 ≤ j → j < 12 → S (t + 4) j = S0 (s + 4) j) ∧ (∀ j : Int, 0 ≤ j → j < 12 → S (t + 5) j = S0 (s + 5) j) ∧ (∀ j : Int, 0 ≤ j → j < 12 → S (t + 6) j = S0 (s + 6) j) ∧ (∀ j : Int, 0 ≤ j → j < 12 → S (t + 7) j = S0 (s + 7) j) ∧ (∀ j : Int, 0 ≤ j → j < 12 → S (t + 8) j = S0 (s + 8) j) ∧ (∀ (p : Nat) (j : Int), p ≠ t → p ≠ t + 1 → p ≠ t + 2 → p ≠ t + 4 → p ≠ t + 5 → p ≠ t + 6 → p ≠ t + 7 → p ≠ t + 8 → S p j = S0 p j) ∧ (∀ j : Int, j ≠ 0 → j ≠ 4 → S t j = S0 t j)
noncomputable def rxmQCZ_14 (S0 : Nat → Int → Int) (ws : List Int) (S : Nat → Int → Int) (pt ps a6_ b6_ : Int) : Nat := 25
noncomputable def rxzQCZ_14 : rx_Z := ([(0, 0), (0, 0), (0, 0), (0, 0), (0, 0), (0, 0), (0, 0), (0, 0), (0, 1522), (0, 1522), (0, 1522), (0, 1522)], [], [(((8, 0), 1000007), .inl none), (((9, 0), 1000007), .inl none), (((10, 0), 1000014), .inl none), (((11, 0), 1000014), .inl none)], 0, 0, 123, [(0, .inr (3, (8, 0))), (1, .inr (3, (9, 0)))], [])
noncomputable def rxIQCZ_15 (S0 : Nat → Int → Int) (ws : List Int) (S : Nat → Int → Int) (pt ps a7_ b7_ : Int) : Prop := ∃ t s : Nat, pt = (t : Int) ∧ ps = (s : Int) ∧ ws = [(t : Int), (s : Int)] ∧ (t ∈ rkPg ∧ s ∈ rkPg ∧ (t + 10 ≤ s ∨ s + 10 ≤ t)) ∧ a7_ = ((s + 9 : Nat) : Int) ∧ b7_ = ((t + 9 : Nat) : Int) ∧ S t 0 = S0 s 0 ∧ S t 4 = S0 s 4 ∧ (∀ j : Int, 0 ≤ j → j < 400 → S (t + 1) j = S0 (s + 1) j) ∧ (∀ j : Int, 0 ≤ j → j < 400 → S (t + 2) j = S0 (s + 2) j) ∧ (∀ j : Int, 0 ≤ j → j < 12 → S (t + 4) j = S0 (s + 4) j) ∧ (∀ j : Int, 0 ≤ j → j < 12 → S (t + 5) j = S0 (s + 5) j) ∧ (∀ j : Int, 0 ≤ j → j < 12 → S (t + 6) j = S0 (s + 6) j) ∧ (∀ j : Int, 0 ≤ j → j < 12 → S (t + 7) j = S0 (s + 7) j) ∧ (∀ j : Int, 0 ≤ j → j < 12 → S (t + 8) j = S0 (s + 8) j) ∧ (∀ (p : Nat) (j : Int), p ≠ t → p ≠ t + 1 → p ≠ t + 2 → p ≠ t + 4 → p ≠ t + 5 → p ≠ t + 6 → p ≠ t + 7 → p ≠ t + 8 → S p j = S0 p j) ∧ (∀ j : Int, j ≠ 0 → j ≠ 4 → S t j = S0 t j)
noncomputable def rxmQCZ_15 (S0 : Nat → Int → Int) (ws : List Int) (S : Nat → Int → Int) (pt ps a7_ b7_ : Int) : Nat := 20
noncomputable def rxzQCZ_15 : rx_Z := ([(0, 0), (0, 0), (0, 0), (0, 0), (0, 0), (0, 0), (0, 0), (0, 0), (0, 1522), (0, 1522), (0, 1522), (0, 1522)], [], [(((8, 0), 1000007), .inl none), (((9, 0), 1000007), .inl none), (((10, 0), 1000014), .inl none), (((11, 0), 1000014), .inl none)], 0, 0, 135, [(0, .inr (3, (8, 0))), (1, .inr (3, (9, 0)))], [.inr (0, (0, 12)), .inr (0, (0, 0)), .inr (3, (11, 0)), .inr (0, (0, 0)), .inr (3, (10, 0))])
noncomputable def rxIQCZ_16 (S0 : Nat → Int → Int) (ws : List Int) (S : Nat → Int → Int) (pt ps a7_ b7_ : Int) : Prop := ∃ t s : Nat, pt = (t : Int) ∧ ps = (s : Int) ∧ ws = [(t : Int), (s : Int)] ∧ (t ∈ rkPg ∧ s ∈ rkPg ∧ (t + 10 ≤ s ∨ s + 10 ≤ t)) ∧ S t 0 = S0 s 0 ∧ S t 4 = S0 s 4 ∧ (∀ j : Int, 0 ≤ j → j < 400 → S (t + 1) j = S0 (s + 1) j) ∧ (∀ j : Int, 0 ≤ j → j < 400 → S (t + 2) j = S0 (s + 2) j) ∧ (∀ j : Int, 0 ≤ j → j < 12 → S (t + 4) j = S0 (s + 4) j) ∧ (∀ j : Int, 0 ≤ j → j < 12 → S (t + 5) j = S0 (s + 5) j) ∧ (∀ j : Int, 0 ≤ j → j < 12 → S (t + 6) j = S0 (s + 6) j) ∧ (∀ j : Int, 0 ≤ j → j < 12 → S (t + 7) j = S0 (s + 7) j) ∧ (∀ j : Int, 0 ≤ j → j < 12 → S (t + 8) j = S0 (s + 8) j) ∧ (∀ j : Int, 0 ≤ j → j < 12 → S (t + 9) j = S0 (s + 9) j) ∧ (∀ (p : Nat) (j : Int), p ≠ t → p ≠ t + 1 → p ≠ t + 2 → p ≠ t + 4 → p ≠ t + 5 → p ≠ t + 6 → p ≠ t + 7 → p ≠ t + 8 → p ≠ t + 9 → S p j = S0 p j) ∧ (∀ j : Int, j ≠ 0 → j ≠ 4 → S t j = S0 t j)
noncomputable def rxmQCZ_16 (S0 : Nat → Int → Int) (ws : List Int) (S : Nat → Int → Int) (pt ps a7_ b7_ : Int) : Nat := 15
noncomputable def rxzQCZ_16 : rx_Z := ([(0, 0), (0, 0), (0, 0), (0, 0), (0, 0), (0, 0), (0, 0), (0, 0), (0, 1522), (0, 1522), (0, 1522), (0, 1522)], [], [(((8, 0), 1000007), .inl none), (((9, 0), 1000007), .inl none), (((10, 0), 1000014), .inl none), (((11, 0), 1000014), .inl none)], 0, 0, 138, [(0, .inr (3, (8, 0))), (1, .inr (3, (9, 0)))], [])
noncomputable def rxoQCZ_0_0 : bx_HO := (([(0, 0), (0, 0), (0, 0), (0, 0), (0, 0), (0, 0), (0, 0), (0, 0), (0, 1522), (0, 1522), (0, 400), (0, 12)], [], [(((0, 0), 1851192626986356797625047037163794926384839479479878431107186760000000), .inr (3, (8, 1))), (((8, 0), 1), .inr (3, (8, 1))), (((0, 0), 1851192626986356797625047037163794926384839479479878431107186769000000), .inr (3, (9, 1))), (((9, 0), 1), .inr (3, (9, 1))), (((0, 0), 1851192626986356798227167157524121751206303872841384191768657995000000), .inr (0, (11, 0))), (((8, 0), 4), .inr (0, (11, 0))), (((0, 0), 1851192626986356798227167157524121751206303872841384191768658001000000), .inr (0, (11, 0))), (((0, 0), 1851192626986356797424340330377019318111018015026043177553363019000000), .inr (0, (10, 0))), (((8, 0), 0), .inr (0, (10, 0))), (((0, 0), 1851192626986356797424340330377019318111018015026043177553363025000000), .inr (0, (10, 0))), (((9, 0), 1000007), .inl none), (((8, 0), 1000007), .inl none)], 0, 0, 29, [(0, .inr (3, (8, 0))), (1, .inr (3, (9, 0)))], [.inr (0, (0, 400)), .inr (0, (0, 0)), .inr (3, (8, 1)), .inr (0, (0, 0)), .inr (3, (9, 1))]), [], [], [(0, 0), (0, 0), (0, 0), (0, 0), (0, 0), (0, 0), (0, 0), (0, 0), (8, 0), (9, 0)], 1)
noncomputable def rxoQCZ_2_0 : bx_HO := (([(0, 0), (0, 0), (0, 0), (0, 0), (0, 0), (0, 0), (0, 0), (0, 0), (0, 1522), (0, 1522)], [], [(((0, 0), 1851192626986356797825753743950570534658660943933713684661010504000000), .inr (3, (8, 2))), (((8, 0), 2), .inr (3, (8, 2))), (((0, 0), 1851192626986356797825753743950570534658660943933713684661010513000000), .inr (3, (9, 2))), (((9, 0), 2), .inr (3, (9, 2))), (((8, 0), 1000007), .inl none), (((9, 0), 1000007), .inl none)], 0, 0, 45, [(0, .inr (3, (8, 0))), (1, .inr (3, (9, 0)))], [.inr (0, (0, 400)), .inr (0, (0, 0)), .inr (3, (8, 2)), .inr (0, (0, 0)), .inr (3, (9, 2))]), [], [], [(0, 0), (0, 0), (0, 0), (0, 0), (0, 0), (0, 0), (0, 0), (0, 0), (8, 0), (9, 0)], 3)
noncomputable def rxoQCZ_4_0 : bx_HO := (([(0, 0), (0, 0), (0, 0), (0, 0), (0, 0), (0, 0), (0, 0), (0, 0), (0, 1522), (0, 1522)], [], [(((0, 0), 1851192626986356798427873864310897359480125337295219445322481736000000), .inr (3, (8, 4))), (((8, 0), 5), .inr (3, (8, 4))), (((0, 0), 1851192626986356798427873864310897359480125337295219445322481745000000), .inr (3, (9, 4))), (((9, 0), 5), .inr (3, (9, 4))), (((8, 0), 1000007), .inl none), (((9, 0), 1000007), .inl none)], 0, 0, 60, [(0, .inr (3, (8, 0))), (1, .inr (3, (9, 0)))], [.inr (0, (0, 12)), .inr (0, (0, 0)), .inr (3, (8, 4)), .inr (0, (0, 0)), .inr (3, (9, 4))]), [], [], [(0, 0), (0, 0), (0, 0), (0, 0), (0, 0), (0, 0), (0, 0), (0, 0), (8, 0), (9, 0)], 5)
noncomputable def rxoQCZ_6_0 : bx_HO := (([(0, 0), (0, 0), (0, 0), (0, 0), (0, 0), (0, 0), (0, 0), (0, 0), (0, 1522), (0, 1522)], [], [(((0, 0), 1851192626986356798628580571097672967753946801749054698876305480000000), .inr (3, (8, 5))), (((8, 0), 6), .inr (3, (8, 5))), (((0, 0), 1851192626986356798628580571097672967753946801749054698876305489000000), .inr (3, (9, 5))), (((9, 0), 6), .inr (3, (9, 5))), (((8, 0), 1000007), .inl none), (((9, 0), 1000007), .inl none)], 0, 0, 75, [(0, .inr (3, (8, 0))), (1, .inr (3, (9, 0)))], [.inr (0, (0, 12)), .inr (0, (0, 0)), .inr (3, (8, 5)), .inr (0, (0, 0)), .inr (3, (9, 5))]), [], [], [(0, 0), (0, 0), (0, 0), (0, 0), (0, 0), (0, 0), (0, 0), (0, 0), (8, 0), (9, 0)], 7)
noncomputable def rxoQCZ_8_0 : bx_HO := (([(0, 0), (0, 0), (0, 0), (0, 0), (0, 0), (0, 0), (0, 0), (0, 0), (0, 1522), (0, 1522)], [], [(((0, 0), 1851192626986356798829287277884448576027768266202889952430129224000000), .inr (3, (8, 6))), (((8, 0), 7), .inr (3, (8, 6))), (((0, 0), 1851192626986356798829287277884448576027768266202889952430129233000000), .inr (3, (9, 6))), (((9, 0), 7), .inr (3, (9, 6))), (((8, 0), 1000007), .inl none), (((9, 0), 1000007), .inl none)], 0, 0, 90, [(0, .inr (3, (8, 0))), (1, .inr (3, (9, 0)))], [.inr (0, (0, 12)), .inr (0, (0, 0)), .inr (3, (8, 6)), .inr (0, (0, 0)), .inr (3, (9, 6))]), [], [], [(0, 0), (0, 0), (0, 0), (0, 0), (0, 0), (0, 0), (0, 0), (0, 0), (8, 0), (9, 0)], 9)
noncomputable def rxoQCZ_10_0 : bx_HO := (([(0, 0), (0, 0), (0, 0), (0, 0), (0, 0), (0, 0), (0, 0), (0, 0), (0, 1522), (0, 1522), (0, 1522), (0, 1522)], [], [(((0, 0), 1851192626986356799029993984671224184301589730656725205983952968000000), .inr (3, (11, 0))), (((8, 0), 8), .inr (3, (11, 0))), (((11, 0), 1000014), .inl none), (((0, 0), 1851192626986356799029993984671224184301589730656725205983952977000000), .inr (3, (10, 0))), (((9, 0), 8), .inr (3, (10, 0))), (((10, 0), 1000014), .inl none), (((8, 0), 1000007), .inl none), (((9, 0), 1000007), .inl none)], 0, 0, 105, [(0, .inr (3, (8, 0))), (1, .inr (3, (9, 0)))], [.inr (0, (0, 12)), .inr (0, (0, 0)), .inr (3, (11, 0)), .inr (0, (0, 0)), .inr (3, (10, 0))]), [], [], [(0, 0), (0, 0), (0, 0), (0, 0), (0, 0), (0, 0), (0, 0), (0, 0), (8, 0), (9, 0), (10, 0), (11, 0)], 11)
noncomputable def rxoQCZ_12_0 : bx_HO := (([(0, 0), (0, 0), (0, 0), (0, 0), (0, 0), (0, 0), (0, 0), (0, 0), (0, 1522), (0, 1522), (0, 1522), (0, 1522), (0, 1522), (0, 1522)], [], [(((0, 0), 1851192626986356799230700691457999792575411195110560459537776712000000), .inr (3, (13, 0))), (((8, 0), 9), .inr (3, (13, 0))), (((13, 0), 1000014), .inl none), (((0, 0), 1851192626986356799230700691457999792575411195110560459537776721000000), .inr (3, (12, 0))), (((9, 0), 9), .inr (3, (12, 0))), (((12, 0), 1000014), .inl none), (((8, 0), 1000007), .inl none), (((9, 0), 1000007), .inl none), (((10, 0), 1000014), .inl none), (((11, 0), 1000014), .inl none)], 0, 0, 120, [(0, .inr (3, (8, 0))), (1, .inr (3, (9, 0)))], [.inr (0, (0, 12)), .inr (0, (0, 0)), .inr (3, (13, 0)), .inr (0, (0, 0)), .inr (3, (12, 0))]), [], [], [(0, 0), (0, 0), (0, 0), (0, 0), (0, 0), (0, 0), (0, 0), (0, 0), (8, 0), (9, 0), (12, 0), (13, 0)], 13)
noncomputable def rxoQCZ_14_0 : bx_HO := (([(0, 0), (0, 0), (0, 0), (0, 0), (0, 0), (0, 0), (0, 0), (0, 0), (0, 1522), (0, 1522), (0, 1522), (0, 1522), (0, 1522), (0, 1522)], [], [(((0, 0), 1851192626986356799431407398244775400849232659564395713091600456000000), .inr (3, (13, 0))), (((8, 0), 10), .inr (3, (13, 0))), (((13, 0), 1000014), .inl none), (((0, 0), 1851192626986356799431407398244775400849232659564395713091600465000000), .inr (3, (12, 0))), (((9, 0), 10), .inr (3, (12, 0))), (((12, 0), 1000014), .inl none), (((8, 0), 1000007), .inl none), (((9, 0), 1000007), .inl none), (((10, 0), 1000014), .inl none), (((11, 0), 1000014), .inl none)], 0, 0, 135, [(0, .inr (3, (8, 0))), (1, .inr (3, (9, 0)))], [.inr (0, (0, 12)), .inr (0, (0, 0)), .inr (3, (13, 0)), .inr (0, (0, 0)), .inr (3, (12, 0))]), [], [], [(0, 0), (0, 0), (0, 0), (0, 0), (0, 0), (0, 0), (0, 0), (0, 0), (8, 0), (9, 0), (12, 0), (13, 0)], 15)
noncomputable def rxeQCZ_16_0 : rx_End × List (Nat × Int × Int) := (([(0, 0), (0, 0), (0, 0), (0, 0), (0, 0), (0, 0), (0, 0), (0, 0), (0, 1522), (0, 1522), (0, 1522), (0, 1522)], [], [(((8, 0), 1000007), .inl none), (((9, 0), 1000007), .inl none), (((10, 0), 1000014), .inl none), (((11, 0), 1000014), .inl none)], none), [])
noncomputable def rxYQCZ : List bx_HE := [(rxzQCZ_0, [rxoQCZ_0_0], []), (rxzQCZ_1, [], []), (rxzQCZ_2, [rxoQCZ_2_0], []), (rxzQCZ_3, [], []), (rxzQCZ_4, [rxoQCZ_4_0], []), (rxzQCZ_5, [], []), (rxzQCZ_6, [rxoQCZ_6_0], []), (rxzQCZ_7, [], []), (rxzQCZ_8, [rxoQCZ_8_0], []), (rxzQCZ_9, [], []), (rxzQCZ_10, [rxoQCZ_10_0], []), (rxzQCZ_11, [], []), (rxzQCZ_12, [rxoQCZ_12_0], []), (rxzQCZ_13, [], []), (rxzQCZ_14, [rxoQCZ_14_0], []), (rxzQCZ_15, [], []), (rxzQCZ_16, [], [rxeQCZ_16_0])]
noncomputable def rxUQCZ (q : bx_HE) : Bool := Nat.beq (rx_zpc q.1) 29 || Nat.beq (rx_zpc q.1) 45 || Nat.beq (rx_zpc q.1) 60 || Nat.beq (rx_zpc q.1) 75 || Nat.beq (rx_zpc q.1) 90 || Nat.beq (rx_zpc q.1) 105 || Nat.beq (rx_zpc q.1) 120 || Nat.beq (rx_zpc q.1) 135
noncomputable def rxYBQCZ : bx_B := (rxV, rxNP, rxDmf, bx_mdH rxCQCZ.2.2.1)
set_option maxRecDepth 100000 in
theorem rxYcQCZ : bx_chkH rxYBQCZ rxM95 rxCQCZ rxYQCZ (rxUQCZ, fun cut z => rx_ex2 (rxCT rxYBQCZ rxCnE) cut 30000 rxCQCZ.2.2.2.1 95 z) = true := by decide +kernel
noncomputable def rxIQCZ (S0 : Nat → Int → Int) (ws : List Int) (i : Nat) : bx_SP := fun S r => match i with | 0 => rxIQCZ_0 S0 ws S (r 8) (r 9) | 1 => rxIQCZ_1 S0 ws S (r 8) (r 9) | 2 => rxIQCZ_2 S0 ws S (r 8) (r 9) | 3 => rxIQCZ_3 S0 ws S (r 8) (r 9) | 4 => rxIQCZ_4 S0 ws S (r 8) (r 9) | 5 => rxIQCZ_5 S0 ws S (r 8) (r 9) | 6 => rxIQCZ_6 S0 ws S (r 8) (r 9) | 7 => rxIQCZ_7 S0 ws S (r 8) (r 9) | 8 => rxIQCZ_8 S0 ws S (r 8) (r 9) | 9 => rxIQCZ_9 S0 ws S (r 8) (r 9) | 10 => rxIQCZ_10 S0 ws S (r 8) (r 9) | 11 => rxIQCZ_11 S0 ws S (r 8) (r 9) (r 10) (r 11) | 12 => rxIQCZ_12 S0 ws S (r 8) (r 9) (r 10) (r 11) | 13 => rxIQCZ_13 S0 ws S (r 8) (r 9) (r 10) (r 11) | 14 => rxIQCZ_14 S0 ws S (r 8) (r 9) (r 10) (r 11) | 15 => rxIQCZ_15 S0 ws S (r 8) (r 9) (r 10) (r 11) | 16 => rxIQCZ_16 S0 ws S (r 8) (r 9) (r 10) (r 11) | _ => False
noncomputable def rxmQCZ (S0 : Nat → Int → Int) (ws : List Int) (i : Nat) (S : Nat → Int → Int) (r : Nat → Int) : Nat := match i with | 0 => rxmQCZ_0 S0 ws S (r 8) (r 9) | 1 => rxmQCZ_1 S0 ws S (r 8) (r 9) | 2 => rxmQCZ_2 S0 ws S (r 8) (r 9) | 3 => rxmQCZ_3 S0 ws S (r 8) (r 9) | 4 => rxmQCZ_4 S0 ws S (r 8) (r 9) | 5 => rxmQCZ_5 S0 ws S (r 8) (r 9) | 6 => rxmQCZ_6 S0 ws S (r 8) (r 9) | 7 => rxmQCZ_7 S0 ws S (r 8) (r 9) | 8 => rxmQCZ_8 S0 ws S (r 8) (r 9) | 9 => rxmQCZ_9 S0 ws S (r 8) (r 9) | 10 => rxmQCZ_10 S0 ws S (r 8) (r 9) | 11 => rxmQCZ_11 S0 ws S (r 8) (r 9) (r 10) (r 11) | 12 => rxmQCZ_12 S0 ws S (r 8) (r 9) (r 10) (r 11) | 13 => rxmQCZ_13 S0 ws S (r 8) (r 9) (r 10) (r 11) | 14 => rxmQCZ_14 S0 ws S (r 8) (r 9) (r 10) (r 11) | 15 => rxmQCZ_15 S0 ws S (r 8) (r 9) (r 10) (r 11) | 16 => rxmQCZ_16 S0 ws S (r 8) (r 9) (r 10) (r 11) | _ => 0
noncomputable def rxPQCZ (S0 : Nat → Int → Int) (ws : List Int) : Prop := ∃ t s : Nat, ws = [(t : Int), (s : Int)] ∧ (t ∈ rkPg ∧ s ∈ rkPg ∧ (t + 10 ≤ s ∨ s + 10 ≤ t)) ∧ rkPq S0 s ∧ rkPq S0 t
noncomputable def rxPSQCZ (S0 : Nat → Int → Int) (ws : List Int) (S : Nat → Int → Int) (w : Option Int) : Prop := w = none ∧ ∀ t s : Nat, ws = [(t : Int), (s : Int)] → rkQc S0 S t s
theorem rxtQCZ_1 {S0 : Nat → Int → Int} {ws : List Int} {S : Nat → Int → Int} {pt ps : Int} (hP : rxPQCZ S0 ws) (hin : bx_same rxL (bx_mdl rxCQCZ.2.2.1) S0 S) (I0 : bx_Inv rxL S) (hinv : rxIQCZ_1 S0 ws S pt ps) (l8 : 0 ≤ pt) (u8 : pt ≤ 1522) (l9 : 0 ≤ ps) (u9 : ps ≤ 1522) : ∃ P0 P1 : Nat, (ps + 1 = (P0 : Int) ∧ pt + 1 = (P1 : Int)) ∧ rk_ck rxCQCZ.2.2.1 400 P0 P1 = true ∧ rxIQCZ_2 S0 ws (bx_cpS S P0 P1 400) pt ps ∧ rxmQCZ_2 S0 ws (bx_cpS S P0 P1 400) pt ps < rxmQCZ_1 S0 ws S pt ps := by
  obtain ⟨t, s, hpt, hps, hw, hm, h0, h1, hf, ho⟩ := hinv
  have hgap := hm.2.2
  refine ⟨s + 1, t + 1, ⟨by omega, by omega⟩, rk_ck_of (g := 21) (l := 0) (h := 13) (List.all_eq_true.mp rkPg_c1 s hm.2.1) (List.all_eq_true.mp rkPg_c1 t hm.1) (by decide +kernel), ⟨t, s, hpt, hps, hw, hm, ?_, ?_, ?_, ?_, ?_⟩, by unfold rxmQCZ_1 rxmQCZ_2; omega⟩
  · rw [bx_cpS_ne (by omega)]; exact h0
  · rw [bx_cpS_ne (by omega)]; exact h1
  · intro j a b; rw [bx_cpS_in a b]; exact hf _ j (by omega)
  · intro p j n n0; rw [bx_cpS_ne n0]; exact hf p j n
  · intro j m0 m4; rw [bx_cpS_ne (by omega)]; exact ho j m0 m4
theorem rxsQCZ_1 {X : (Nat → Int → Int) → Prop} {S0 : Nat → Int → Int} {ws : List Int} (hP : rxPQCZ S0 ws) (hX : ∀ S S1 : Nat → Int → Int, X S → bx_same rxL (bx_mdl rxCQCZ.2.2.1) S S1 → X S1) : rk_obZ X S0 rxCQCZ.2.2.1 (rxIQCZ S0 ws) (rxmQCZ S0 ws) 1 2 rxzQCZ_1 ((9, 1)) ((8, 1)) 400 := by
  intro S r hinv hXS I0 hin hs_ hf_
  have b_ := bx_bds_sat hs_
  have f_ := bx_fcl_ok hs_.1 hf_
  obtain ⟨⟨l8, u8⟩, ⟨l9, u9⟩, -⟩ := b_
  obtain ⟨P0, P1, ⟨g1, g2⟩, gc, g3, g4⟩ := rxtQCZ_1 hP hin I0 hinv l8 u8 l9 u9
  exact ⟨P0, P1, ⟨by have q := g1; show (r 9 + 1).toNat = _; omega, by have q := g2; show (r 8 + 1).toNat = _; omega⟩, gc, g3, g4, hX _ _ hXS (rk_ck_same gc (fun _ _ _ _ _ => rfl)), rk_ck_same gc hin⟩
theorem rxtQCZ_3 {S0 : Nat → Int → Int} {ws : List Int} {S : Nat → Int → Int} {pt ps : Int} (hP : rxPQCZ S0 ws) (hin : bx_same rxL (bx_mdl rxCQCZ.2.2.1) S0 S) (I0 : bx_Inv rxL S) (hinv : rxIQCZ_3 S0 ws S pt ps) (l8 : 0 ≤ pt) (u8 : pt ≤ 1522) (l9 : 0 ≤ ps) (u9 : ps ≤ 1522) : ∃ P0 P1 : Nat, (ps + 2 = (P0 : Int) ∧ pt + 2 = (P1 : Int)) ∧ rk_ck rxCQCZ.2.2.1 400 P0 P1 = true ∧ rxIQCZ_4 S0 ws (bx_cpS S P0 P1 400) pt ps ∧ rxmQCZ_4 S0 ws (bx_cpS S P0 P1 400) pt ps < rxmQCZ_3 S0 ws S pt ps := by
  obtain ⟨t, s, hpt, hps, hw, hm, h0, h1, h2, hf, ho⟩ := hinv
  have hgap := hm.2.2
  refine ⟨s + 2, t + 2, ⟨by omega, by omega⟩, rk_ck_of (g := 22) (l := (-1)) (h := 1000) (List.all_eq_true.mp rkPg_c2 s hm.2.1) (List.all_eq_true.mp rkPg_c2 t hm.1) (by decide +kernel), ⟨t, s, hpt, hps, hw, hm, ?_, ?_, ?_, ?_, ?_, ?_⟩, by unfold rxmQCZ_3 rxmQCZ_4; omega⟩
  · rw [bx_cpS_ne (by omega)]; exact h0
  · rw [bx_cpS_ne (by omega)]; exact h1
  · intro j a b; rw [bx_cpS_ne (by omega)]; exact h2 j a b
  · intro j a b; rw [bx_cpS_in a b]; exact hf _ j (by omega) (by omega)
  · intro p j n n0 n1; rw [bx_cpS_ne n1]; exact hf p j n n0
  · intro j m0 m4; rw [bx_cpS_ne (by omega)]; exact ho j m0 m4
theorem rxsQCZ_3 {X : (Nat → Int → Int) → Prop} {S0 : Nat → Int → Int} {ws : List Int} (hP : rxPQCZ S0 ws) (hX : ∀ S S1 : Nat → Int → Int, X S → bx_same rxL (bx_mdl rxCQCZ.2.2.1) S S1 → X S1) : rk_obZ X S0 rxCQCZ.2.2.1 (rxIQCZ S0 ws) (rxmQCZ S0 ws) 3 4 rxzQCZ_3 ((9, 2)) ((8, 2)) 400 := by
  intro S r hinv hXS I0 hin hs_ hf_
  have b_ := bx_bds_sat hs_
  have f_ := bx_fcl_ok hs_.1 hf_
  obtain ⟨⟨l8, u8⟩, ⟨l9, u9⟩, -⟩ := b_
  obtain ⟨P0, P1, ⟨g1, g2⟩, gc, g3, g4⟩ := rxtQCZ_3 hP hin I0 hinv l8 u8 l9 u9
  exact ⟨P0, P1, ⟨by have q := g1; show (r 9 + 2).toNat = _; omega, by have q := g2; show (r 8 + 2).toNat = _; omega⟩, gc, g3, g4, hX _ _ hXS (rk_ck_same gc (fun _ _ _ _ _ => rfl)), rk_ck_same gc hin⟩
theorem rxtQCZ_5 {S0 : Nat → Int → Int} {ws : List Int} {S : Nat → Int → Int} {pt ps : Int} (hP : rxPQCZ S0 ws) (hin : bx_same rxL (bx_mdl rxCQCZ.2.2.1) S0 S) (I0 : bx_Inv rxL S) (hinv : rxIQCZ_5 S0 ws S pt ps) (l8 : 0 ≤ pt) (u8 : pt ≤ 1522) (l9 : 0 ≤ ps) (u9 : ps ≤ 1522) : ∃ P0 P1 : Nat, (ps + 4 = (P0 : Int) ∧ pt + 4 = (P1 : Int)) ∧ rk_ck rxCQCZ.2.2.1 12 P0 P1 = true ∧ rxIQCZ_6 S0 ws (bx_cpS S P0 P1 12) pt ps ∧ rxmQCZ_6 S0 ws (bx_cpS S P0 P1 12) pt ps < rxmQCZ_5 S0 ws S pt ps := by
  obtain ⟨t, s, hpt, hps, hw, hm, h0, h1, h2, h3, hf, ho⟩ := hinv
  have hgap := hm.2.2
  refine ⟨s + 4, t + 4, ⟨by omega, by omega⟩, rk_ck_of (g := 24) (l := 0) (h := 4) (List.all_eq_true.mp rkPg_c4 s hm.2.1) (List.all_eq_true.mp rkPg_c4 t hm.1) (by decide +kernel), ⟨t, s, hpt, hps, hw, hm, ?_, ?_, ?_, ?_, ?_, ?_, ?_⟩, by unfold rxmQCZ_5 rxmQCZ_6; omega⟩
  · rw [bx_cpS_ne (by omega)]; exact h0
  · rw [bx_cpS_ne (by omega)]; exact h1
  · intro j a b; rw [bx_cpS_ne (by omega)]; exact h2 j a b
  · intro j a b; rw [bx_cpS_ne (by omega)]; exact h3 j a b
  · intro j a b; rw [bx_cpS_in a b]; exact hf _ j (by omega) (by omega) (by omega)
  · intro p j n n0 n1 n2; rw [bx_cpS_ne n2]; exact hf p j n n0 n1
  · intro j m0 m4; rw [bx_cpS_ne (by omega)]; exact ho j m0 m4
theorem rxsQCZ_5 {X : (Nat → Int → Int) → Prop} {S0 : Nat → Int → Int} {ws : List Int} (hP : rxPQCZ S0 ws) (hX : ∀ S S1 : Nat → Int → Int, X S → bx_same rxL (bx_mdl rxCQCZ.2.2.1) S S1 → X S1) : rk_obZ X S0 rxCQCZ.2.2.1 (rxIQCZ S0 ws) (rxmQCZ S0 ws) 5 6 rxzQCZ_5 ((9, 4)) ((8, 4)) 12 := by
  intro S r hinv hXS I0 hin hs_ hf_
  have b_ := bx_bds_sat hs_
  have f_ := bx_fcl_ok hs_.1 hf_
  obtain ⟨⟨l8, u8⟩, ⟨l9, u9⟩, -⟩ := b_
  obtain ⟨P0, P1, ⟨g1, g2⟩, gc, g3, g4⟩ := rxtQCZ_5 hP hin I0 hinv l8 u8 l9 u9
  exact ⟨P0, P1, ⟨by have q := g1; show (r 9 + 4).toNat = _; omega, by have q := g2; show (r 8 + 4).toNat = _; omega⟩, gc, g3, g4, hX _ _ hXS (rk_ck_same gc (fun _ _ _ _ _ => rfl)), rk_ck_same gc hin⟩
theorem rxtQCZ_7 {S0 : Nat → Int → Int} {ws : List Int} {S : Nat → Int → Int} {pt ps : Int} (hP : rxPQCZ S0 ws) (hin : bx_same rxL (bx_mdl rxCQCZ.2.2.1) S0 S) (I0 : bx_Inv rxL S) (hinv : rxIQCZ_7 S0 ws S pt ps) (l8 : 0 ≤ pt) (u8 : pt ≤ 1522) (l9 : 0 ≤ ps) (u9 : ps ≤ 1522) : ∃ P0 P1 : Nat, (ps + 5 = (P0 : Int) ∧ pt + 5 = (P1 : Int)) ∧ rk_ck rxCQCZ.2.2.1 12 P0 P1 = true ∧ rxIQCZ_8 S0 ws (bx_cpS S P0 P1 12) pt ps ∧ rxmQCZ_8 S0 ws (bx_cpS S P0 P1 12) pt ps < rxmQCZ_7 S0 ws S pt ps := by
  obtain ⟨t, s, hpt, hps, hw, hm, h0, h1, h2, h3, h4, hf, ho⟩ := hinv
  have hgap := hm.2.2
  refine ⟨s + 5, t + 5, ⟨by omega, by omega⟩, rk_ck_of (g := 25) (l := (-1)) (h := 6) (List.all_eq_true.mp rkPg_c5 s hm.2.1) (List.all_eq_true.mp rkPg_c5 t hm.1) (by decide +kernel), ⟨t, s, hpt, hps, hw, hm, ?_, ?_, ?_, ?_, ?_, ?_, ?_, ?_⟩, by unfold rxmQCZ_7 rxmQCZ_8; omega⟩
  · rw [bx_cpS_ne (by omega)]; exact h0
  · rw [bx_cpS_ne (by omega)]; exact h1
  · intro j a b; rw [bx_cpS_ne (by omega)]; exact h2 j a b
  · intro j a b; rw [bx_cpS_ne (by omega)]; exact h3 j a b
  · intro j a b; rw [bx_cpS_ne (by omega)]; exact h4 j a b
  · intro j a b; rw [bx_cpS_in a b]; exact hf _ j (by omega) (by omega) (by omega) (by omega)
  · intro p j n n0 n1 n2 n3; rw [bx_cpS_ne n3]; exact hf p j n n0 n1 n2
  · intro j m0 m4; rw [bx_cpS_ne (by omega)]; exact ho j m0 m4
theorem rxsQCZ_7 {X : (Nat → Int → Int) → Prop} {S0 : Nat → Int → Int} {ws : List Int} (hP : rxPQCZ S0 ws) (hX : ∀ S S1 : Nat → Int → Int, X S → bx_same rxL (bx_mdl rxCQCZ.2.2.1) S S1 → X S1) : rk_obZ X S0 rxCQCZ.2.2.1 (rxIQCZ S0 ws) (rxmQCZ S0 ws) 7 8 rxzQCZ_7 ((9, 5)) ((8, 5)) 12 := by
  intro S r hinv hXS I0 hin hs_ hf_
  have b_ := bx_bds_sat hs_
  have f_ := bx_fcl_ok hs_.1 hf_
  obtain ⟨⟨l8, u8⟩, ⟨l9, u9⟩, -⟩ := b_
  obtain ⟨P0, P1, ⟨g1, g2⟩, gc, g3, g4⟩ := rxtQCZ_7 hP hin I0 hinv l8 u8 l9 u9
  exact ⟨P0, P1, ⟨by have q := g1; show (r 9 + 5).toNat = _; omega, by have q := g2; show (r 8 + 5).toNat = _; omega⟩, gc, g3, g4, hX _ _ hXS (rk_ck_same gc (fun _ _ _ _ _ => rfl)), rk_ck_same gc hin⟩
theorem rxtQCZ_9 {S0 : Nat → Int → Int} {ws : List Int} {S : Nat → Int → Int} {pt ps : Int} (hP : rxPQCZ S0 ws) (hin : bx_same rxL (bx_mdl rxCQCZ.2.2.1) S0 S) (I0 : bx_Inv rxL S) (hinv : rxIQCZ_9 S0 ws S pt ps) (l8 : 0 ≤ pt) (u8 : pt ≤ 1522) (l9 : 0 ≤ ps) (u9 : ps ≤ 1522) : ∃ P0 P1 : Nat, (ps + 6 = (P0 : Int) ∧ pt + 6 = (P1 : Int)) ∧ rk_ck rxCQCZ.2.2.1 12 P0 P1 = true ∧ rxIQCZ_10 S0 ws (bx_cpS S P0 P1 12) pt ps ∧ rxmQCZ_10 S0 ws (bx_cpS S P0 P1 12) pt ps < rxmQCZ_9 S0 ws S pt ps := by
  obtain ⟨t, s, hpt, hps, hw, hm, h0, h1, h2, h3, h4, h5, hf, ho⟩ := hinv
  have hgap := hm.2.2
  refine ⟨s + 6, t + 6, ⟨by omega, by omega⟩, rk_ck_of (g := 26) (l := (-1)) (h := 6) (List.all_eq_true.mp rkPg_c6 s hm.2.1) (List.all_eq_true.mp rkPg_c6 t hm.1) (by decide +kernel), ⟨t, s, hpt, hps, hw, hm, ?_, ?_, ?_, ?_, ?_, ?_, ?_, ?_, ?_⟩, by unfold rxmQCZ_9 rxmQCZ_10; omega⟩
  · rw [bx_cpS_ne (by omega)]; exact h0
  · rw [bx_cpS_ne (by omega)]; exact h1
  · intro j a b; rw [bx_cpS_ne (by omega)]; exact h2 j a b
  · intro j a b; rw [bx_cpS_ne (by omega)]; exact h3 j a b
  · intro j a b; rw [bx_cpS_ne (by omega)]; exact h4 j a b
  · intro j a b; rw [bx_cpS_ne (by omega)]; exact h5 j a b
  · intro j a b; rw [bx_cpS_in a b]; exact hf _ j (by omega) (by omega) (by omega) (by omega) (by omega)
  · intro p j n n0 n1 n2 n3 n4; rw [bx_cpS_ne n4]; exact hf p j n n0 n1 n2 n3
  · intro j m0 m4; rw [bx_cpS_ne (by omega)]; exact ho j m0 m4
theorem rxsQCZ_9 {X : (Nat → Int → Int) → Prop} {S0 : Nat → Int → Int} {ws : List Int} (hP : rxPQCZ S0 ws) (hX : ∀ S S1 : Nat → Int → Int, X S → bx_same rxL (bx_mdl rxCQCZ.2.2.1) S S1 → X S1) : rk_obZ X S0 rxCQCZ.2.2.1 (rxIQCZ S0 ws) (rxmQCZ S0 ws) 9 10 rxzQCZ_9 ((9, 6)) ((8, 6)) 12 := by
  intro S r hinv hXS I0 hin hs_ hf_
  have b_ := bx_bds_sat hs_
  have f_ := bx_fcl_ok hs_.1 hf_
  obtain ⟨⟨l8, u8⟩, ⟨l9, u9⟩, -⟩ := b_
  obtain ⟨P0, P1, ⟨g1, g2⟩, gc, g3, g4⟩ := rxtQCZ_9 hP hin I0 hinv l8 u8 l9 u9
  exact ⟨P0, P1, ⟨by have q := g1; show (r 9 + 6).toNat = _; omega, by have q := g2; show (r 8 + 6).toNat = _; omega⟩, gc, g3, g4, hX _ _ hXS (rk_ck_same gc (fun _ _ _ _ _ => rfl)), rk_ck_same gc hin⟩
theorem rxtQCZ_11 {S0 : Nat → Int → Int} {ws : List Int} {S : Nat → Int → Int} {pt ps a5_ b5_ : Int} (hP : rxPQCZ S0 ws) (hin : bx_same rxL (bx_mdl rxCQCZ.2.2.1) S0 S) (I0 : bx_Inv rxL S) (hinv : rxIQCZ_11 S0 ws S pt ps a5_ b5_) (l8 : 0 ≤ pt) (u8 : pt ≤ 1522) (l9 : 0 ≤ ps) (u9 : ps ≤ 1522) (l10 : 0 ≤ a5_) (u10 : a5_ ≤ 1522) (l11 : 0 ≤ b5_) (u11 : b5_ ≤ 1522) : ∃ P0 P1 : Nat, (a5_ = (P0 : Int) ∧ b5_ = (P1 : Int)) ∧ rk_ck rxCQCZ.2.2.1 12 P0 P1 = true ∧ rxIQCZ_12 S0 ws (bx_cpS S P0 P1 12) pt ps a5_ b5_ ∧ rxmQCZ_12 S0 ws (bx_cpS S P0 P1 12) pt ps a5_ b5_ < rxmQCZ_11 S0 ws S pt ps a5_ b5_ := by
  obtain ⟨t, s, hpt, hps, hw, hm, ha, hb, h0, h1, h2, h3, h4, h5, h6, hf, ho⟩ := hinv
  have hgap := hm.2.2
  refine ⟨s + 7, t + 7, ⟨by omega, by omega⟩, rk_ck_of (g := 27) (l := (-1)) (h := 400) (List.all_eq_true.mp rkPg_c7 s hm.2.1) (List.all_eq_true.mp rkPg_c7 t hm.1) (by decide +kernel), ⟨t, s, hpt, hps, hw, hm, ?_, ?_, ?_, ?_, ?_, ?_, ?_, ?_, ?_, ?_⟩, by unfold rxmQCZ_11 rxmQCZ_12; omega⟩
  · rw [bx_cpS_ne (by omega)]; exact h0
  · rw [bx_cpS_ne (by omega)]; exact h1
  · intro j a b; rw [bx_cpS_ne (by omega)]; exact h2 j a b
  · intro j a b; rw [bx_cpS_ne (by omega)]; exact h3 j a b
  · intro j a b; rw [bx_cpS_ne (by omega)]; exact h4 j a b
  · intro j a b; rw [bx_cpS_ne (by omega)]; exact h5 j a b
  · intro j a b; rw [bx_cpS_ne (by omega)]; exact h6 j a b
  · intro j a b; rw [bx_cpS_in a b]; exact hf _ j (by omega) (by omega) (by omega) (by omega) (by omega) (by omega)
  · intro p j n n0 n1 n2 n3 n4 n5; rw [bx_cpS_ne n5]; exact hf p j n n0 n1 n2 n3 n4
  · intro j m0 m4; rw [bx_cpS_ne (by omega)]; exact ho j m0 m4
theorem rxsQCZ_11 {X : (Nat → Int → Int) → Prop} {S0 : Nat → Int → Int} {ws : List Int} (hP : rxPQCZ S0 ws) (hX : ∀ S S1 : Nat → Int → Int, X S → bx_same rxL (bx_mdl rxCQCZ.2.2.1) S S1 → X S1) : rk_obZ X S0 rxCQCZ.2.2.1 (rxIQCZ S0 ws) (rxmQCZ S0 ws) 11 12 rxzQCZ_11 ((10, 0)) ((11, 0)) 12 := by
  intro S r hinv hXS I0 hin hs_ hf_
  have b_ := bx_bds_sat hs_
  have f_ := bx_fcl_ok hs_.1 hf_
  obtain ⟨⟨l8, u8⟩, ⟨l9, u9⟩, ⟨l10, u10⟩, ⟨l11, u11⟩, -⟩ := b_
  obtain ⟨P0, P1, ⟨g1, g2⟩, gc, g3, g4⟩ := rxtQCZ_11 hP hin I0 hinv l8 u8 l9 u9 l10 u10 l11 u11
  exact ⟨P0, P1, ⟨by have q := g1; show (r 10 + 0).toNat = _; omega, by have q := g2; show (r 11 + 0).toNat = _; omega⟩, gc, g3, g4, hX _ _ hXS (rk_ck_same gc (fun _ _ _ _ _ => rfl)), rk_ck_same gc hin⟩
theorem rxtQCZ_13 {S0 : Nat → Int → Int} {ws : List Int} {S : Nat → Int → Int} {pt ps a6_ b6_ : Int} (hP : rxPQCZ S0 ws) (hin : bx_same rxL (bx_mdl rxCQCZ.2.2.1) S0 S) (I0 : bx_Inv rxL S) (hinv : rxIQCZ_13 S0 ws S pt ps a6_ b6_) (l8 : 0 ≤ pt) (u8 : pt ≤ 1522) (l9 : 0 ≤ ps) (u9 : ps ≤ 1522) (l10 : 0 ≤ a6_) (u10 : a6_ ≤ 1522) (l11 : 0 ≤ b6_) (u11 : b6_ ≤ 1522) : ∃ P0 P1 : Nat, (a6_ = (P0 : Int) ∧ b6_ = (P1 : Int)) ∧ rk_ck rxCQCZ.2.2.1 12 P0 P1 = true ∧ rxIQCZ_14 S0 ws (bx_cpS S P0 P1 12) pt ps a6_ b6_ ∧ rxmQCZ_14 S0 ws (bx_cpS S P0 P1 12) pt ps a6_ b6_ < rxmQCZ_13 S0 ws S pt ps a6_ b6_ := by
  obtain ⟨t, s, hpt, hps, hw, hm, ha, hb, h0, h1, h2, h3, h4, h5, h6, h7, hf, ho⟩ := hinv
  have hgap := hm.2.2
  refine ⟨s + 8, t + 8, ⟨by omega, by omega⟩, rk_ck_of (g := 27) (l := (-1)) (h := 400) (List.all_eq_true.mp rkPg_c8 s hm.2.1) (List.all_eq_true.mp rkPg_c8 t hm.1) (by decide +kernel), ⟨t, s, hpt, hps, hw, hm, ?_, ?_, ?_, ?_, ?_, ?_, ?_, ?_, ?_, ?_, ?_⟩, by unfold rxmQCZ_13 rxmQCZ_14; omega⟩
  · rw [bx_cpS_ne (by omega)]; exact h0
  · rw [bx_cpS_ne (by omega)]; exact h1
  · intro j a b; rw [bx_cpS_ne (by omega)]; exact h2 j a b
  · intro j a b; rw [bx_cpS_ne (by omega)]; exact h3 j a b
  · intro j a b; rw [bx_cpS_ne (by omega)]; exact h4 j a b
  · intro j a b; rw [bx_cpS_ne (by omega)]; exact h5 j a b
  · intro j a b; rw [bx_cpS_ne (by omega)]; exact h6 j a b
  · intro j a b; rw [bx_cpS_ne (by omega)]; exact h7 j a b
  · intro j a b; rw [bx_cpS_in a b]; exact hf _ j (by omega) (by omega) (by omega) (by omega) (by omega) (by omega) (by omega)
  · intro p j n n0 n1 n2 n3 n4 n5 n6; rw [bx_cpS_ne n6]; exact hf p j n n0 n1 n2 n3 n4 n5
  · intro j m0 m4; rw [bx_cpS_ne (by omega)]; exact ho j m0 m4
theorem rxsQCZ_13 {X : (Nat → Int → Int) → Prop} {S0 : Nat → Int → Int} {ws : List Int} (hP : rxPQCZ S0 ws) (hX : ∀ S S1 : Nat → Int → Int, X S → bx_same rxL (bx_mdl rxCQCZ.2.2.1) S S1 → X S1) : rk_obZ X S0 rxCQCZ.2.2.1 (rxIQCZ S0 ws) (rxmQCZ S0 ws) 13 14 rxzQCZ_13 ((10, 0)) ((11, 0)) 12 := by
  intro S r hinv hXS I0 hin hs_ hf_
  have b_ := bx_bds_sat hs_
  have f_ := bx_fcl_ok hs_.1 hf_
  obtain ⟨⟨l8, u8⟩, ⟨l9, u9⟩, ⟨l10, u10⟩, ⟨l11, u11⟩, -⟩ := b_
  obtain ⟨P0, P1, ⟨g1, g2⟩, gc, g3, g4⟩ := rxtQCZ_13 hP hin I0 hinv l8 u8 l9 u9 l10 u10 l11 u11
  exact ⟨P0, P1, ⟨by have q := g1; show (r 10 + 0).toNat = _; omega, by have q := g2; show (r 11 + 0).toNat = _; omega⟩, gc, g3, g4, hX _ _ hXS (rk_ck_same gc (fun _ _ _ _ _ => rfl)), rk_ck_same gc hin⟩
theorem rxtQCZ_15 {S0 : Nat → Int → Int} {ws : List Int} {S : Nat → Int → Int} {pt ps a7_ b7_ : Int} (hP : rxPQCZ S0 ws) (hin : bx_same rxL (bx_mdl rxCQCZ.2.2.1) S0 S) (I0 : bx_Inv rxL S) (hinv : rxIQCZ_15 S0 ws S pt ps a7_ b7_) (l8 : 0 ≤ pt) (u8 : pt ≤ 1522) (l9 : 0 ≤ ps) (u9 : ps ≤ 1522) (l10 : 0 ≤ a7_) (u10 : a7_ ≤ 1522) (l11 : 0 ≤ b7_) (u11 : b7_ ≤ 1522) : ∃ P0 P1 : Nat, (a7_ = (P0 : Int) ∧ b7_ = (P1 : Int)) ∧ rk_ck rxCQCZ.2.2.1 12 P0 P1 = true ∧ rxIQCZ_16 S0 ws (bx_cpS S P0 P1 12) pt ps a7_ b7_ ∧ rxmQCZ_16 S0 ws (bx_cpS S P0 P1 12) pt ps a7_ b7_ < rxmQCZ_15 S0 ws S pt ps a7_ b7_ := by
  obtain ⟨t, s, hpt, hps, hw, hm, ha, hb, h0, h1, h2, h3, h4, h5, h6, h7, h8, hf, ho⟩ := hinv
  have hgap := hm.2.2
  refine ⟨s + 9, t + 9, ⟨by omega, by omega⟩, rk_ck_of (g := 27) (l := (-1)) (h := 400) (List.all_eq_true.mp rkPg_c9 s hm.2.1) (List.all_eq_true.mp rkPg_c9 t hm.1) (by decide +kernel), ⟨t, s, hpt, hps, hw, hm, ?_, ?_, ?_, ?_, ?_, ?_, ?_, ?_, ?_, ?_, ?_, ?_⟩, by unfold rxmQCZ_15 rxmQCZ_16; omega⟩
  · rw [bx_cpS_ne (by omega)]; exact h0
  · rw [bx_cpS_ne (by omega)]; exact h1
  · intro j a b; rw [bx_cpS_ne (by omega)]; exact h2 j a b
  · intro j a b; rw [bx_cpS_ne (by omega)]; exact h3 j a b
  · intro j a b; rw [bx_cpS_ne (by omega)]; exact h4 j a b
  · intro j a b; rw [bx_cpS_ne (by omega)]; exact h5 j a b
  · intro j a b; rw [bx_cpS_ne (by omega)]; exact h6 j a b
  · intro j a b; rw [bx_cpS_ne (by omega)]; exact h7 j a b
  · intro j a b; rw [bx_cpS_ne (by omega)]; exact h8 j a b
  · intro j a b; rw [bx_cpS_in a b]; exact hf _ j (by omega) (by omega) (by omega) (by omega) (by omega) (by omega) (by omega) (by omega)
  · intro p j n n0 n1 n2 n3 n4 n5 n6 n7; rw [bx_cpS_ne n7]; exact hf p j n n0 n1 n2 n3 n4 n5 n6
  · intro j m0 m4; rw [bx_cpS_ne (by omega)]; exact ho j m0 m4
theorem rxsQCZ_15 {X : (Nat → Int → Int) → Prop} {S0 : Nat → Int → Int} {ws : List Int} (hP : rxPQCZ S0 ws) (hX : ∀ S S1 : Nat → Int → Int, X S → bx_same rxL (bx_mdl rxCQCZ.2.2.1) S S1 → X S1) : rk_obZ X S0 rxCQCZ.2.2.1 (rxIQCZ S0 ws) (rxmQCZ S0 ws) 15 16 rxzQCZ_15 ((10, 0)) ((11, 0)) 12 := by
  intro S r hinv hXS I0 hin hs_ hf_
  have b_ := bx_bds_sat hs_
  have f_ := bx_fcl_ok hs_.1 hf_
  obtain ⟨⟨l8, u8⟩, ⟨l9, u9⟩, ⟨l10, u10⟩, ⟨l11, u11⟩, -⟩ := b_
  obtain ⟨P0, P1, ⟨g1, g2⟩, gc, g3, g4⟩ := rxtQCZ_15 hP hin I0 hinv l8 u8 l9 u9 l10 u10 l11 u11
  exact ⟨P0, P1, ⟨by have q := g1; show (r 10 + 0).toNat = _; omega, by have q := g2; show (r 11 + 0).toNat = _; omega⟩, gc, g3, g4, hX _ _ hXS (rk_ck_same gc (fun _ _ _ _ _ => rfl)), rk_ck_same gc hin⟩
theorem rxcQCZ_0_0 {S0 : Nat → Int → Int} {ws : List Int} {S : Nat → Int → Int} {pt ps x10 x11 : Int} (hP : rxPQCZ S0 ws) (hin : bx_same rxL (bx_mdl rxCQCZ.2.2.1) S0 S) (I0 : bx_Inv rxL S) (hinv : rxIQCZ_0 S0 ws S pt ps) (l8 : 0 ≤ pt) (u8 : pt ≤ 1522) (l9 : 0 ≤ ps) (u9 : ps ≤ 1522) (l10 : 0 ≤ x10) (u10 : x10 ≤ 400) (l11 : 0 ≤ x11) (u11 : x11 ≤ 12) (e5 : S (ps).toNat 0 = x10) (e3 : (bx_up S (pt).toNat 0 x10) (ps).toNat 4 = x11) (e1 : (bx_up (bx_up S (pt).toNat 0 x10) (pt).toNat 4 x11) (ps).toNat 1 = ps + 1) (e0 : (bx_up (bx_up S (pt).toNat 0 x10) (pt).toNat 4 x11) (pt).toNat 1 = pt + 1) : (True) ∧ (True) ∧ rxIQCZ_1 S0 ws (bx_up (bx_up S (pt).toNat 0 x10) (pt).toNat 4 x11) pt ps ∧ rxmQCZ_1 S0 ws (bx_up (bx_up S (pt).toNat 0 x10) (pt).toNat 4 x11) pt ps < rxmQCZ_0 S0 ws S pt ps := by
  obtain ⟨rfl, hw⟩ := hinv
  obtain ⟨t, s, hw2, hm, hq⟩ := hP
  have z0 := hw.symm.trans hw2
  have hpt : pt = (t : Int) := Option.some.inj (congrArg (fun l : List Int => l[0]?) z0)
  have hps : ps = (s : Int) := Option.some.inj (congrArg (fun l : List Int => l[1]?) z0)
  have ept : (pt).toNat = t := by omega
  have eps : (ps).toNat = s := by omega
  have hgap := hm.2.2
  rw [ept]
  have k0 := e5
  rw [eps] at k0
  have k1 := e3
  rw [eps] at k1
  have k1 : S s 4 = x11 := ((bx_up_ne (by omega))).symm.trans k1
  exact ⟨trivial, trivial, ⟨t, s, hpt, hps, hw2, hm, (((bx_up_ne (by omega))).trans bx_up_at).trans k0.symm, (bx_up_at).trans k1.symm, fun p j n => (bx_up_ne (by omega)).trans ((bx_up_ne (by omega))), fun j m0 m4 => (bx_up_ne (by omega)).trans ((bx_up_ne (by omega)))⟩, by unfold rxmQCZ_0 rxmQCZ_1; omega⟩
theorem rxgQCZ_0_0 {X : (Nat → Int → Int) → Prop} {S0 : Nat → Int → Int} {ws : List Int} (hP : rxPQCZ S0 ws) : bx_obC rxL X S0 rxCQCZ.2.2.1 (rxIQCZ S0 ws) (rxmQCZ S0 ws) 0 rxzQCZ_0 rxoQCZ_0_0 := by
  intro S S_p r r_p hinv hX hin hsm_ hseg
  obtain ⟨I0, I1, h0_, hr_, b_, f_, d_⟩ := bx_cl (evs := [(0, (8, 0), (0, 1), .inr (3, (8, 1))), (0, (9, 0), (0, 1), .inr (3, (9, 1))), (1, (8, 0), (0, 4), .inr (0, (11, 0))), (0, (9, 0), (0, 4), .inr (0, (11, 0))), (1, (8, 0), (0, 0), .inr (0, (10, 0))), (0, (9, 0), (0, 0), .inr (0, (10, 0)))]) (fvs := []) hseg (by decide +kernel) (by decide +kernel)
  have hinv : rxIQCZ_0 S0 ws S (r 8) (r 9) := hinv
  rw [← hr_ 8 (by decide), ← hr_ 9 (by decide)] at hinv
  obtain ⟨⟨l8, u8⟩, ⟨l9, u9⟩, ⟨l10, u10⟩, ⟨l11, u11⟩, -⟩ := b_
  obtain ⟨e0, ⟨e1, ⟨T2, ⟨e3, ⟨T4, ⟨e5, w_⟩, w4⟩⟩, w2⟩⟩⟩ := d_
  subst w2
  subst w4
  subst w_
  have g := rxcQCZ_0_0 hP hin I0 hinv l8 u8 l9 u9 l10 u10 l11 u11 e5 e3 e1 e0
  refine ⟨bx_narP_ok (l := []) g.1, bx_nfP_ok h0_ (fvs := []) (by decide +kernel) g.2.1, ?_, ?_⟩
  · show rxIQCZ_1 S0 ws (bx_up (bx_up T4 (r_p 8).toNat (0) (r_p 10)) (r_p 8).toNat (4) (r_p 11)) (bx_val [(0, 0), (0, 0), (0, 0), (0, 0), (0, 0), (0, 0), (0, 0), (0, 0), (8, 0), (9, 0)] r_p 8) (bx_val [(0, 0), (0, 0), (0, 0), (0, 0), (0, 0), (0, 0), (0, 0), (0, 0), (8, 0), (9, 0)] r_p 9)
    rw [bx_val_x (n := 8) (e := (8, 0)) h0_ rfl, bx_val_x (n := 9) (e := (9, 0)) h0_ rfl]
    exact g.2.2.1
  · show rxmQCZ_1 S0 ws (bx_up (bx_up T4 (r_p 8).toNat (0) (r_p 10)) (r_p 8).toNat (4) (r_p 11)) (bx_val [(0, 0), (0, 0), (0, 0), (0, 0), (0, 0), (0, 0), (0, 0), (0, 0), (8, 0), (9, 0)] r_p 8) (bx_val [(0, 0), (0, 0), (0, 0), (0, 0), (0, 0), (0, 0), (0, 0), (0, 0), (8, 0), (9, 0)] r_p 9) < rxmQCZ_0 S0 ws T4 (r 8) (r 9)
    rw [bx_val_x (n := 8) (e := (8, 0)) h0_ rfl, bx_val_x (n := 9) (e := (9, 0)) h0_ rfl, ← hr_ 8 (by decide), ← hr_ 9 (by decide)]
    exact g.2.2.2
theorem rxcQCZ_2_0 {S0 : Nat → Int → Int} {ws : List Int} {S : Nat → Int → Int} {pt ps : Int} (hP : rxPQCZ S0 ws) (hin : bx_same rxL (bx_mdl rxCQCZ.2.2.1) S0 S) (I0 : bx_Inv rxL S) (hinv : rxIQCZ_2 S0 ws S pt ps) (l8 : 0 ≤ pt) (u8 : pt ≤ 1522) (l9 : 0 ≤ ps) (u9 : ps ≤ 1522) (e1 : S (ps).toNat 2 = ps + 2) (e0 : S (pt).toNat 2 = pt + 2) : (True) ∧ (True) ∧ rxIQCZ_3 S0 ws S pt ps ∧ rxmQCZ_3 S0 ws S pt ps < rxmQCZ_2 S0 ws S pt ps := by
  exact ⟨trivial, trivial, hinv, by unfold rxmQCZ_2 rxmQCZ_3; omega⟩
theorem rxgQCZ_2_0 {X : (Nat → Int → Int) → Prop} {S0 : Nat → Int → Int} {ws : List Int} (hP : rxPQCZ S0 ws) : bx_obC rxL X S0 rxCQCZ.2.2.1 (rxIQCZ S0 ws) (rxmQCZ S0 ws) 2 rxzQCZ_2 rxoQCZ_2_0 := by
  intro S S_p r r_p hinv hX hin hsm_ hseg
  obtain ⟨I0, I1, h0_, hr_, b_, f_, d_⟩ := bx_cl (evs := [(0, (8, 0), (0, 2), .inr (3, (8, 2))), (0, (9, 0), (0, 2), .inr (3, (9, 2)))]) (fvs := []) hseg (by decide +kernel) (by decide +kernel)
  have hinv : rxIQCZ_2 S0 ws S (r 8) (r 9) := hinv
  rw [← hr_ 8 (by decide), ← hr_ 9 (by decide)] at hinv
  obtain ⟨⟨l8, u8⟩, ⟨l9, u9⟩, -⟩ := b_
  obtain ⟨e0, ⟨e1, w_⟩⟩ := d_
  subst w_
  have g := rxcQCZ_2_0 hP hin I0 hinv l8 u8 l9 u9 e1 e0
  refine ⟨bx_narP_ok (l := []) g.1, bx_nfP_ok h0_ (fvs := []) (by decide +kernel) g.2.1, ?_, ?_⟩
  · show rxIQCZ_3 S0 ws S_p (bx_val [(0, 0), (0, 0), (0, 0), (0, 0), (0, 0), (0, 0), (0, 0), (0, 0), (8, 0), (9, 0)] r_p 8) (bx_val [(0, 0), (0, 0), (0, 0), (0, 0), (0, 0), (0, 0), (0, 0), (0, 0), (8, 0), (9, 0)] r_p 9)
    rw [bx_val_x (n := 8) (e := (8, 0)) h0_ rfl, bx_val_x (n := 9) (e := (9, 0)) h0_ rfl]
    exact g.2.2.1
  · show rxmQCZ_3 S0 ws S_p (bx_val [(0, 0), (0, 0), (0, 0), (0, 0), (0, 0), (0, 0), (0, 0), (0, 0), (8, 0), (9, 0)] r_p 8) (bx_val [(0, 0), (0, 0), (0, 0), (0, 0), (0, 0), (0, 0), (0, 0), (0, 0), (8, 0), (9, 0)] r_p 9) < rxmQCZ_2 S0 ws S_p (r 8) (r 9)
    rw [bx_val_x (n := 8) (e := (8, 0)) h0_ rfl, bx_val_x (n := 9) (e := (9, 0)) h0_ rfl, ← hr_ 8 (by decide), ← hr_ 9 (by decide)]
    exact g.2.2.2
theorem rxcQCZ_4_0 {S0 : Nat → Int → Int} {ws : List Int} {S : Nat → Int → Int} {pt ps : Int} (hP : rxPQCZ S0 ws) (hin : bx_same rxL (bx_mdl rxCQCZ.2.2.1) S0 S) (I0 : bx_Inv rxL S) (hinv : rxIQCZ_4 S0 ws S pt ps) (l8 : 0 ≤ pt) (u8 : pt ≤ 1522) (l9 : 0 ≤ ps) (u9 : ps ≤ 1522) (e1 : S (ps).toNat 5 = ps + 4) (e0 : S (pt).toNat 5 = pt + 4) : (True) ∧ (True) ∧ rxIQCZ_5 S0 ws S pt ps ∧ rxmQCZ_5 S0 ws S pt ps < rxmQCZ_4 S0 ws S pt ps := by
  exact ⟨trivial, trivial, hinv, by unfold rxmQCZ_4 rxmQCZ_5; omega⟩
theorem rxgQCZ_4_0 {X : (Nat → Int → Int) → Prop} {S0 : Nat → Int → Int} {ws : List Int} (hP : rxPQCZ S0 ws) : bx_obC rxL X S0 rxCQCZ.2.2.1 (rxIQCZ S0 ws) (rxmQCZ S0 ws) 4 rxzQCZ_4 rxoQCZ_4_0 := by
  intro S S_p r r_p hinv hX hin hsm_ hseg
  obtain ⟨I0, I1, h0_, hr_, b_, f_, d_⟩ := bx_cl (evs := [(0, (8, 0), (0, 5), .inr (3, (8, 4))), (0, (9, 0), (0, 5), .inr (3, (9, 4)))]) (fvs := []) hseg (by decide +kernel) (by decide +kernel)
  have hinv : rxIQCZ_4 S0 ws S (r 8) (r 9) := hinv
  rw [← hr_ 8 (by decide), ← hr_ 9 (by decide)] at hinv
  obtain ⟨⟨l8, u8⟩, ⟨l9, u9⟩, -⟩ := b_
  obtain ⟨e0, ⟨e1, w_⟩⟩ := d_
  subst w_
  have g := rxcQCZ_4_0 hP hin I0 hinv l8 u8 l9 u9 e1 e0
  refine ⟨bx_narP_ok (l := []) g.1, bx_nfP_ok h0_ (fvs := []) (by decide +kernel) g.2.1, ?_, ?_⟩
  · show rxIQCZ_5 S0 ws S_p (bx_val [(0, 0), (0, 0), (0, 0), (0, 0), (0, 0), (0, 0), (0, 0), (0, 0), (8, 0), (9, 0)] r_p 8) (bx_val [(0, 0), (0, 0), (0, 0), (0, 0), (0, 0), (0, 0), (0, 0), (0, 0), (8, 0), (9, 0)] r_p 9)
    rw [bx_val_x (n := 8) (e := (8, 0)) h0_ rfl, bx_val_x (n := 9) (e := (9, 0)) h0_ rfl]
    exact g.2.2.1
  · show rxmQCZ_5 S0 ws S_p (bx_val [(0, 0), (0, 0), (0, 0), (0, 0), (0, 0), (0, 0), (0, 0), (0, 0), (8, 0), (9, 0)] r_p 8) (bx_val [(0, 0), (0, 0), (0, 0), (0, 0), (0, 0), (0, 0), (0, 0), (0, 0), (8, 0), (9, 0)] r_p 9) < rxmQCZ_4 S0 ws S_p (r 8) (r 9)
    rw [bx_val_x (n := 8) (e := (8, 0)) h0_ rfl, bx_val_x (n := 9) (e := (9, 0)) h0_ rfl, ← hr_ 8 (by decide), ← hr_ 9 (by decide)]
    exact g.2.2.2
theorem rxcQCZ_6_0 {S0 : Nat → Int → Int} {ws : List Int} {S : Nat → Int → Int} {pt ps : Int} (hP : rxPQCZ S0 ws) (hin : bx_same rxL (bx_mdl rxCQCZ.2.2.1) S0 S) (I0 : bx_Inv rxL S) (hinv : rxIQCZ_6 S0 ws S pt ps) (l8 : 0 ≤ pt) (u8 : pt ≤ 1522) (l9 : 0 ≤ ps) (u9 : ps ≤ 1522) (e1 : S (ps).toNat 6 = ps + 5) (e0 : S (pt).toNat 6 = pt + 5) : (True) ∧ (True) ∧ rxIQCZ_7 S0 ws S pt ps ∧ rxmQCZ_7 S0 ws S pt ps < rxmQCZ_6 S0 ws S pt ps := by
  exact ⟨trivial, trivial, hinv, by unfold rxmQCZ_6 rxmQCZ_7; omega⟩
theorem rxgQCZ_6_0 {X : (Nat → Int → Int) → Prop} {S0 : Nat → Int → Int} {ws : List Int} (hP : rxPQCZ S0 ws) : bx_obC rxL X S0 rxCQCZ.2.2.1 (rxIQCZ S0 ws) (rxmQCZ S0 ws) 6 rxzQCZ_6 rxoQCZ_6_0 := by
  intro S S_p r r_p hinv hX hin hsm_ hseg
  obtain ⟨I0, I1, h0_, hr_, b_, f_, d_⟩ := bx_cl (evs := [(0, (8, 0), (0, 6), .inr (3, (8, 5))), (0, (9, 0), (0, 6), .inr (3, (9, 5)))]) (fvs := []) hseg (by decide +kernel) (by decide +kernel)
  have hinv : rxIQCZ_6 S0 ws S (r 8) (r 9) := hinv
  rw [← hr_ 8 (by decide), ← hr_ 9 (by decide)] at hinv
  obtain ⟨⟨l8, u8⟩, ⟨l9, u9⟩, -⟩ := b_
  obtain ⟨e0, ⟨e1, w_⟩⟩ := d_
  subst w_
  have g := rxcQCZ_6_0 hP hin I0 hinv l8 u8 l9 u9 e1 e0
  refine ⟨bx_narP_ok (l := []) g.1, bx_nfP_ok h0_ (fvs := []) (by decide +kernel) g.2.1, ?_, ?_⟩
  · show rxIQCZ_7 S0 ws S_p (bx_val [(0, 0), (0, 0), (0, 0), (0, 0), (0, 0), (0, 0), (0, 0), (0, 0), (8, 0), (9, 0)] r_p 8) (bx_val [(0, 0), (0, 0), (0, 0), (0, 0), (0, 0), (0, 0), (0, 0), (0, 0), (8, 0), (9, 0)] r_p 9)
    rw [bx_val_x (n := 8) (e := (8, 0)) h0_ rfl, bx_val_x (n := 9) (e := (9, 0)) h0_ rfl]
    exact g.2.2.1
  · show rxmQCZ_7 S0 ws S_p (bx_val [(0, 0), (0, 0), (0, 0), (0, 0), (0, 0), (0, 0), (0, 0), (0, 0), (8, 0), (9, 0)] r_p 8) (bx_val [(0, 0), (0, 0), (0, 0), (0, 0), (0, 0), (0, 0), (0, 0), (0, 0), (8, 0), (9, 0)] r_p 9) < rxmQCZ_6 S0 ws S_p (r 8) (r 9)
    rw [bx_val_x (n := 8) (e := (8, 0)) h0_ rfl, bx_val_x (n := 9) (e := (9, 0)) h0_ rfl, ← hr_ 8 (by decide), ← hr_ 9 (by decide)]
    exact g.2.2.2
theorem rxcQCZ_8_0 {S0 : Nat → Int → Int} {ws : List Int} {S : Nat → Int → Int} {pt ps : Int} (hP : rxPQCZ S0 ws) (hin : bx_same rxL (bx_mdl rxCQCZ.2.2.1) S0 S) (I0 : bx_Inv rxL S) (hinv : rxIQCZ_8 S0 ws S pt ps) (l8 : 0 ≤ pt) (u8 : pt ≤ 1522) (l9 : 0 ≤ ps) (u9 : ps ≤ 1522) (e1 : S (ps).toNat 7 = ps + 6) (e0 : S (pt).toNat 7 = pt + 6) : (True) ∧ (True) ∧ rxIQCZ_9 S0 ws S pt ps ∧ rxmQCZ_9 S0 ws S pt ps < rxmQCZ_8 S0 ws S pt ps := by
  exact ⟨trivial, trivial, hinv, by unfold rxmQCZ_8 rxmQCZ_9; omega⟩
theorem rxgQCZ_8_0 {X : (Nat → Int → Int) → Prop} {S0 : Nat → Int → Int} {ws : List Int} (hP : rxPQCZ S0 ws) : bx_obC rxL X S0 rxCQCZ.2.2.1 (rxIQCZ S0 ws) (rxmQCZ S0 ws) 8 rxzQCZ_8 rxoQCZ_8_0 := by
  intro S S_p r r_p hinv hX hin hsm_ hseg
  obtain ⟨I0, I1, h0_, hr_, b_, f_, d_⟩ := bx_cl (evs := [(0, (8, 0), (0, 7), .inr (3, (8, 6))), (0, (9, 0), (0, 7), .inr (3, (9, 6)))]) (fvs := []) hseg (by decide +kernel) (by decide +kernel)
  have hinv : rxIQCZ_8 S0 ws S (r 8) (r 9) := hinv
  rw [← hr_ 8 (by decide), ← hr_ 9 (by decide)] at hinv
  obtain ⟨⟨l8, u8⟩, ⟨l9, u9⟩, -⟩ := b_
  obtain ⟨e0, ⟨e1, w_⟩⟩ := d_
  subst w_
  have g := rxcQCZ_8_0 hP hin I0 hinv l8 u8 l9 u9 e1 e0
  refine ⟨bx_narP_ok (l := []) g.1, bx_nfP_ok h0_ (fvs := []) (by decide +kernel) g.2.1, ?_, ?_⟩
  · show rxIQCZ_9 S0 ws S_p (bx_val [(0, 0), (0, 0), (0, 0), (0, 0), (0, 0), (0, 0), (0, 0), (0, 0), (8, 0), (9, 0)] r_p 8) (bx_val [(0, 0), (0, 0), (0, 0), (0, 0), (0, 0), (0, 0), (0, 0), (0, 0), (8, 0), (9, 0)] r_p 9)
    rw [bx_val_x (n := 8) (e := (8, 0)) h0_ rfl, bx_val_x (n := 9) (e := (9, 0)) h0_ rfl]
    exact g.2.2.1
  · show rxmQCZ_9 S0 ws S_p (bx_val [(0, 0), (0, 0), (0, 0), (0, 0), (0, 0), (0, 0), (0, 0), (0, 0), (8, 0), (9, 0)] r_p 8) (bx_val [(0, 0), (0, 0), (0, 0), (0, 0), (0, 0), (0, 0), (0, 0), (0, 0), (8, 0), (9, 0)] r_p 9) < rxmQCZ_8 S0 ws S_p (r 8) (r 9)
    rw [bx_val_x (n := 8) (e := (8, 0)) h0_ rfl, bx_val_x (n := 9) (e := (9, 0)) h0_ rfl, ← hr_ 8 (by decide), ← hr_ 9 (by decide)]
    exact g.2.2.2
theorem rxcQCZ_10_0 {S0 : Nat → Int → Int} {ws : List Int} {S : Nat → Int → Int} {pt ps x10 x11 : Int} (hP : rxPQCZ S0 ws) (hin : bx_same rxL (bx_mdl rxCQCZ.2.2.1) S0 S) (I0 : bx_Inv rxL S) (hinv : rxIQCZ_10 S0 ws S pt ps) (l8 : 0 ≤ pt) (u8 : pt ≤ 1522) (l9 : 0 ≤ ps) (u9 : ps ≤ 1522) (l10 : 0 ≤ x10) (u10 : x10 ≤ 1522) (l11 : 0 ≤ x11) (u11 : x11 ≤ 1522) (e1 : S (ps).toNat 8 = x10) (e0 : S (pt).toNat 8 = x11) : (True) ∧ (True) ∧ rxIQCZ_11 S0 ws S pt ps x10 x11 ∧ rxmQCZ_11 S0 ws S pt ps x10 x11 < rxmQCZ_10 S0 ws S pt ps := by
  obtain ⟨t, s, hpt, hps, hw, hm, h0, h1, h2, h3, h4, h5, h6, hf, ho⟩ := id hinv
  have hgap := hm.2.2
  have ept : (pt).toNat = t := by omega
  have eps : (ps).toNat = s := by omega
  obtain ⟨t2, s2, hw2, -, hqs, hqt⟩ := hP
  have z0 := hw.symm.trans hw2
  have z1 : (t : Int) = (t2 : Int) := Option.some.inj (congrArg (fun l : List Int => l[0]?) z0)
  have z2 : (s : Int) = (s2 : Int) := Option.some.inj (congrArg (fun l : List Int => l[1]?) z0)
  have z1 : t = t2 := by omega
  have z2 : s = s2 := by omega
  subst z1
  subst z2
  have kA := e1
  rw [eps] at kA
  have kB := e0
  rw [ept] at kB
  have k1 : S s 8 = S0 s 8 := hf s 8 (by omega) (by omega) (by omega) (by omega) (by omega) (by omega)
  have k2 : S t 8 = S0 t 8 := ho 8 (by omega) (by omega)
  exact ⟨trivial, trivial, ⟨t, s, hpt, hps, hw, hm, (kA.symm.trans (k1.trans (hqs.1))).trans (by omega), (kB.symm.trans (k2.trans (hqt.1))).trans (by omega), h0, h1, h2, h3, h4, h5, h6, hf, ho⟩, by unfold rxmQCZ_10 rxmQCZ_11; omega⟩
theorem rxgQCZ_10_0 {X : (Nat → Int → Int) → Prop} {S0 : Nat → Int → Int} {ws : List Int} (hP : rxPQCZ S0 ws) : bx_obC rxL X S0 rxCQCZ.2.2.1 (rxIQCZ S0 ws) (rxmQCZ S0 ws) 10 rxzQCZ_10 rxoQCZ_10_0 := by
  intro S S_p r r_p hinv hX hin hsm_ hseg
  obtain ⟨I0, I1, h0_, hr_, b_, f_, d_⟩ := bx_cl (evs := [(0, (8, 0), (0, 8), .inr (3, (11, 0))), (0, (9, 0), (0, 8), .inr (3, (10, 0)))]) (fvs := []) hseg (by decide +kernel) (by decide +kernel)
  have hinv : rxIQCZ_10 S0 ws S (r 8) (r 9) := hinv
  rw [← hr_ 8 (by decide), ← hr_ 9 (by decide)] at hinv
  obtain ⟨⟨l8, u8⟩, ⟨l9, u9⟩, ⟨l10, u10⟩, ⟨l11, u11⟩, -⟩ := b_
  obtain ⟨e0, ⟨e1, w_⟩⟩ := d_
  subst w_
  have g := rxcQCZ_10_0 hP hin I0 hinv l8 u8 l9 u9 l10 u10 l11 u11 e1 e0
  refine ⟨bx_narP_ok (l := []) g.1, bx_nfP_ok h0_ (fvs := []) (by decide +kernel) g.2.1, ?_, ?_⟩
  · show rxIQCZ_11 S0 ws S_p (bx_val [(0, 0), (0, 0), (0, 0), (0, 0), (0, 0), (0, 0), (0, 0), (0, 0), (8, 0), (9, 0), (10, 0), (11, 0)] r_p 8) (bx_val [(0, 0), (0, 0), (0, 0), (0, 0), (0, 0), (0, 0), (0, 0), (0, 0), (8, 0), (9, 0), (10, 0), (11, 0)] r_p 9) (bx_val [(0, 0), (0, 0), (0, 0), (0, 0), (0, 0), (0, 0), (0, 0), (0, 0), (8, 0), (9, 0), (10, 0), (11, 0)] r_p 10) (bx_val [(0, 0), (0, 0), (0, 0), (0, 0), (0, 0), (0, 0), (0, 0), (0, 0), (8, 0), (9, 0), (10, 0), (11, 0)] r_p 11)
    rw [bx_val_x (n := 8) (e := (8, 0)) h0_ rfl, bx_val_x (n := 9) (e := (9, 0)) h0_ rfl, bx_val_x (n := 10) (e := (10, 0)) h0_ rfl, bx_val_x (n := 11) (e := (11, 0)) h0_ rfl]
    exact g.2.2.1
  · show rxmQCZ_11 S0 ws S_p (bx_val [(0, 0), (0, 0), (0, 0), (0, 0), (0, 0), (0, 0), (0, 0), (0, 0), (8, 0), (9, 0), (10, 0), (11, 0)] r_p 8) (bx_val [(0, 0), (0, 0), (0, 0), (0, 0), (0, 0), (0, 0), (0, 0), (0, 0), (8, 0), (9, 0), (10, 0), (11, 0)] r_p 9) (bx_val [(0, 0), (0, 0), (0, 0), (0, 0), (0, 0), (0, 0), (0, 0), (0, 0), (8, 0), (9, 0), (10, 0), (11, 0)] r_p 10) (bx_val [(0, 0), (0, 0), (0, 0), (0, 0), (0, 0), (0, 0), (0, 0), (0, 0), (8, 0), (9, 0), (10, 0), (11, 0)] r_p 11) < rxmQCZ_10 S0 ws S_p (r 8) (r 9)
    rw [bx_val_x (n := 8) (e := (8, 0)) h0_ rfl, bx_val_x (n := 9) (e := (9, 0)) h0_ rfl, bx_val_x (n := 10) (e := (10, 0)) h0_ rfl, bx_val_x (n := 11) (e := (11, 0)) h0_ rfl, ← hr_ 8 (by decide), ← hr_ 9 (by decide)]
    exact g.2.2.2
theorem rxcQCZ_12_0 {S0 : Nat → Int → Int} {ws : List Int} {S : Nat → Int → Int} {pt ps a5_ b5_ x12 x13 : Int} (hP : rxPQCZ S0 ws) (hin : bx_same rxL (bx_mdl rxCQCZ.2.2.1) S0 S) (I0 : bx_Inv rxL S) (hinv : rxIQCZ_12 S0 ws S pt ps a5_ b5_) (l8 : 0 ≤ pt) (u8 : pt ≤ 1522) (l9 : 0 ≤ ps) (u9 : ps ≤ 1522) (l10 : 0 ≤ a5_) (u10 : a5_ ≤ 1522) (l11 : 0 ≤ b5_) (u11 : b5_ ≤ 1522) (l12 : 0 ≤ x12) (u12 : x12 ≤ 1522) (l13 : 0 ≤ x13) (u13 : x13 ≤ 1522) (e1 : S (ps).toNat 9 = x12) (e0 : S (pt).toNat 9 = x13) : (True) ∧ (True) ∧ rxIQCZ_13 S0 ws S pt ps x12 x13 ∧ rxmQCZ_13 S0 ws S pt ps x12 x13 < rxmQCZ_12 S0 ws S pt ps a5_ b5_ := by
  obtain ⟨t, s, hpt, hps, hw, hm, h0, h1, h2, h3, h4, h5, h6, h7, hf, ho⟩ := id hinv
  have hgap := hm.2.2
  have ept : (pt).toNat = t := by omega
  have eps : (ps).toNat = s := by omega
  obtain ⟨t2, s2, hw2, -, hqs, hqt⟩ := hP
  have z0 := hw.symm.trans hw2
  have z1 : (t : Int) = (t2 : Int) := Option.some.inj (congrArg (fun l : List Int => l[0]?) z0)
  have z2 : (s : Int) = (s2 : Int) := Option.some.inj (congrArg (fun l : List Int => l[1]?) z0)
  have z1 : t = t2 := by omega
  have z2 : s = s2 := by omega
  subst z1
  subst z2
  have kA := e1
  rw [eps] at kA
  have kB := e0
  rw [ept] at kB
  have k1 : S s 9 = S0 s 9 := hf s 9 (by omega) (by omega) (by omega) (by omega) (by omega) (by omega) (by omega)
  have k2 : S t 9 = S0 t 9 := ho 9 (by omega) (by omega)
  exact ⟨trivial, trivial, ⟨t, s, hpt, hps, hw, hm, (kA.symm.trans (k1.trans (hqs.2.1))).trans (by omega), (kB.symm.trans (k2.trans (hqt.2.1))).trans (by omega), h0, h1, h2, h3, h4, h5, h6, h7, hf, ho⟩, by unfold rxmQCZ_12 rxmQCZ_13; omega⟩
theorem rxgQCZ_12_0 {X : (Nat → Int → Int) → Prop} {S0 : Nat → Int → Int} {ws : List Int} (hP : rxPQCZ S0 ws) : bx_obC rxL X S0 rxCQCZ.2.2.1 (rxIQCZ S0 ws) (rxmQCZ S0 ws) 12 rxzQCZ_12 rxoQCZ_12_0 := by
  intro S S_p r r_p hinv hX hin hsm_ hseg
  obtain ⟨I0, I1, h0_, hr_, b_, f_, d_⟩ := bx_cl (evs := [(0, (8, 0), (0, 9), .inr (3, (13, 0))), (0, (9, 0), (0, 9), .inr (3, (12, 0)))]) (fvs := []) hseg (by decide +kernel) (by decide +kernel)
  have hinv : rxIQCZ_12 S0 ws S (r 8) (r 9) (r 10) (r 11) := hinv
  rw [← hr_ 8 (by decide), ← hr_ 9 (by decide), ← hr_ 10 (by decide), ← hr_ 11 (by decide)] at hinv
  obtain ⟨⟨l8, u8⟩, ⟨l9, u9⟩, ⟨l10, u10⟩, ⟨l11, u11⟩, ⟨l12, u12⟩, ⟨l13, u13⟩, -⟩ := b_
  obtain ⟨e0, ⟨e1, w_⟩⟩ := d_
  subst w_
  have g := rxcQCZ_12_0 hP hin I0 hinv l8 u8 l9 u9 l10 u10 l11 u11 l12 u12 l13 u13 e1 e0
  refine ⟨bx_narP_ok (l := []) g.1, bx_nfP_ok h0_ (fvs := []) (by decide +kernel) g.2.1, ?_, ?_⟩
  · show rxIQCZ_13 S0 ws S_p (bx_val [(0, 0), (0, 0), (0, 0), (0, 0), (0, 0), (0, 0), (0, 0), (0, 0), (8, 0), (9, 0), (12, 0), (13, 0)] r_p 8) (bx_val [(0, 0), (0, 0), (0, 0), (0, 0), (0, 0), (0, 0), (0, 0), (0, 0), (8, 0), (9, 0), (12, 0), (13, 0)] r_p 9) (bx_val [(0, 0), (0, 0), (0, 0), (0, 0), (0, 0), (0, 0), (0, 0), (0, 0), (8, 0), (9, 0), (12, 0), (13, 0)] r_p 10) (bx_val [(0, 0), (0, 0), (0, 0), (0, 0), (0, 0), (0, 0), (0, 0), (0, 0), (8, 0), (9, 0), (12, 0), (13, 0)] r_p 11)
    rw [bx_val_x (n := 8) (e := (8, 0)) h0_ rfl, bx_val_x (n := 9) (e := (9, 0)) h0_ rfl, bx_val_x (n := 10) (e := (12, 0)) h0_ rfl, bx_val_x (n := 11) (e := (13, 0)) h0_ rfl]
    exact g.2.2.1
  · show rxmQCZ_13 S0 ws S_p (bx_val [(0, 0), (0, 0), (0, 0), (0, 0), (0, 0), (0, 0), (0, 0), (0, 0), (8, 0), (9, 0), (12, 0), (13, 0)] r_p 8) (bx_val [(0, 0), (0, 0), (0, 0), (0, 0), (0, 0), (0, 0), (0, 0), (0, 0), (8, 0), (9, 0), (12, 0), (13, 0)] r_p 9) (bx_val [(0, 0), (0, 0), (0, 0), (0, 0), (0, 0), (0, 0), (0, 0), (0, 0), (8, 0), (9, 0), (12, 0), (13, 0)] r_p 10) (bx_val [(0, 0), (0, 0), (0, 0), (0, 0), (0, 0), (0, 0), (0, 0), (0, 0), (8, 0), (9, 0), (12, 0), (13, 0)] r_p 11) < rxmQCZ_12 S0 ws S_p (r 8) (r 9) (r 10) (r 11)
    rw [bx_val_x (n := 8) (e := (8, 0)) h0_ rfl, bx_val_x (n := 9) (e := (9, 0)) h0_ rfl, bx_val_x (n := 10) (e := (12, 0)) h0_ rfl, bx_val_x (n := 11) (e := (13, 0)) h0_ rfl, ← hr_ 8 (by decide), ← hr_ 9 (by decide), ← hr_ 10 (by decide), ← hr_ 11 (by decide)]
    exact g.2.2.2
theorem rxcQCZ_14_0 {S0 : Nat → Int → Int} {ws : List Int} {S : Nat → Int → Int} {pt ps a6_ b6_ x12 x13 : Int} (hP : rxPQCZ S0 ws) (hin : bx_same rxL (bx_mdl rxCQCZ.2.2.1) S0 S) (I0 : bx_Inv rxL S) (hinv : rxIQCZ_14 S0 ws S pt ps a6_ b6_) (l8 : 0 ≤ pt) (u8 : pt ≤ 1522) (l9 : 0 ≤ ps) (u9 : ps ≤ 1522) (l10 : 0 ≤ a6_) (u10 : a6_ ≤ 1522) (l11 : 0 ≤ b6_) (u11 : b6_ ≤ 1522) (l12 : 0 ≤ x12) (u12 : x12 ≤ 1522) (l13 : 0 ≤ x13) (u13 : x13 ≤ 1522) (e1 : S (ps).toNat 10 = x12) (e0 : S (pt).toNat 10 = x13) : (True) ∧ (True) ∧ rxIQCZ_15 S0 ws S pt ps x12 x13 ∧ rxmQCZ_15 S0 ws S pt ps x12 x13 < rxmQCZ_14 S0 ws S pt ps a6_ b6_ := by
  obtain ⟨t, s, hpt, hps, hw, hm, h0, h1, h2, h3, h4, h5, h6, h7, h8, hf, ho⟩ := id hinv
  have hgap := hm.2.2
  have ept : (pt).toNat = t := by omega
  have eps : (ps).toNat = s := by omega
  obtain ⟨t2, s2, hw2, -, hqs, hqt⟩ := hP
  have z0 := hw.symm.trans hw2
  have z1 : (t : Int) = (t2 : Int) := Option.some.inj (congrArg (fun l : List Int => l[0]?) z0)
  have z2 : (s : Int) = (s2 : Int) := Option.some.inj (congrArg (fun l : List Int => l[1]?) z0)
  have z1 : t = t2 := by omega
  have z2 : s = s2 := by omega
  subst z1
  subst z2
  have kA := e1
  rw [eps] at kA
  have kB := e0
  rw [ept] at kB
  have k1 : S s 10 = S0 s 10 := hf s 10 (by omega) (by omega) (by omega) (by omega) (by omega) (by omega) (by omega) (by omega)
  have k2 : S t 10 = S0 t 10 := ho 10 (by omega) (by omega)
  exact ⟨trivial, trivial, ⟨t, s, hpt, hps, hw, hm, (kA.symm.trans (k1.trans (hqs.2.2))).trans (by omega), (kB.symm.trans (k2.trans (hqt.2.2))).trans (by omega), h0, h1, h2, h3, h4, h5, h6, h7, h8, hf, ho⟩, by unfold rxmQCZ_14 rxmQCZ_15; omega⟩
theorem rxgQCZ_14_0 {X : (Nat → Int → Int) → Prop} {S0 : Nat → Int → Int} {ws : List Int} (hP : rxPQCZ S0 ws) : bx_obC rxL X S0 rxCQCZ.2.2.1 (rxIQCZ S0 ws) (rxmQCZ S0 ws) 14 rxzQCZ_14 rxoQCZ_14_0 := by
  intro S S_p r r_p hinv hX hin hsm_ hseg
  obtain ⟨I0, I1, h0_, hr_, b_, f_, d_⟩ := bx_cl (evs := [(0, (8, 0), (0, 10), .inr (3, (13, 0))), (0, (9, 0), (0, 10), .inr (3, (12, 0)))]) (fvs := []) hseg (by decide +kernel) (by decide +kernel)
  have hinv : rxIQCZ_14 S0 ws S (r 8) (r 9) (r 10) (r 11) := hinv
  rw [← hr_ 8 (by decide), ← hr_ 9 (by decide), ← hr_ 10 (by decide), ← hr_ 11 (by decide)] at hinv
  obtain ⟨⟨l8, u8⟩, ⟨l9, u9⟩, ⟨l10, u10⟩, ⟨l11, u11⟩, ⟨l12, u12⟩, ⟨l13, u13⟩, -⟩ := b_
  obtain ⟨e0, ⟨e1, w_⟩⟩ := d_
  subst w_
  have g := rxcQCZ_14_0 hP hin I0 hinv l8 u8 l9 u9 l10 u10 l11 u11 l12 u12 l13 u13 e1 e0
  refine ⟨bx_narP_ok (l := []) g.1, bx_nfP_ok h0_ (fvs := []) (by decide +kernel) g.2.1, ?_, ?_⟩
  · show rxIQCZ_15 S0 ws S_p (bx_val [(0, 0), (0, 0), (0, 0), (0, 0), (0, 0), (0, 0), (0, 0), (0, 0), (8, 0), (9, 0), (12, 0), (13, 0)] r_p 8) (bx_val [(0, 0), (0, 0), (0, 0), (0, 0), (0, 0), (0, 0), (0, 0), (0, 0), (8, 0), (9, 0), (12, 0), (13, 0)] r_p 9) (bx_val [(0, 0), (0, 0), (0, 0), (0, 0), (0, 0), (0, 0), (0, 0), (0, 0), (8, 0), (9, 0), (12, 0), (13, 0)] r_p 10) (bx_val [(0, 0), (0, 0), (0, 0), (0, 0), (0, 0), (0, 0), (0, 0), (0, 0), (8, 0), (9, 0), (12, 0), (13, 0)] r_p 11)
    rw [bx_val_x (n := 8) (e := (8, 0)) h0_ rfl, bx_val_x (n := 9) (e := (9, 0)) h0_ rfl, bx_val_x (n := 10) (e := (12, 0)) h0_ rfl, bx_val_x (n := 11) (e := (13, 0)) h0_ rfl]
    exact g.2.2.1
  · show rxmQCZ_15 S0 ws S_p (bx_val [(0, 0), (0, 0), (0, 0), (0, 0), (0, 0), (0, 0), (0, 0), (0, 0), (8, 0), (9, 0), (12, 0), (13, 0)] r_p 8) (bx_val [(0, 0), (0, 0), (0, 0), (0, 0), (0, 0), (0, 0), (0, 0), (0, 0), (8, 0), (9, 0), (12, 0), (13, 0)] r_p 9) (bx_val [(0, 0), (0, 0), (0, 0), (0, 0), (0, 0), (0, 0), (0, 0), (0, 0), (8, 0), (9, 0), (12, 0), (13, 0)] r_p 10) (bx_val [(0, 0), (0, 0), (0, 0), (0, 0), (0, 0), (0, 0), (0, 0), (0, 0), (8, 0), (9, 0), (12, 0), (13, 0)] r_p 11) < rxmQCZ_14 S0 ws S_p (r 8) (r 9) (r 10) (r 11)
    rw [bx_val_x (n := 8) (e := (8, 0)) h0_ rfl, bx_val_x (n := 9) (e := (9, 0)) h0_ rfl, bx_val_x (n := 10) (e := (12, 0)) h0_ rfl, bx_val_x (n := 11) (e := (13, 0)) h0_ rfl, ← hr_ 8 (by decide), ← hr_ 9 (by decide), ← hr_ 10 (by decide), ← hr_ 11 (by decide)]
    exact g.2.2.2
theorem rxdQCZ_16_0 {S0 : Nat → Int → Int} {ws : List Int} {S : Nat → Int → Int} {pt ps a7_ b7_ : Int} (hP : rxPQCZ S0 ws) (hin : bx_same rxL (bx_mdl rxCQCZ.2.2.1) S0 S) (hin2 : bx_same rxL (bx_mdl rxCQCZ.2.2.1) S S) (I0 : bx_Inv rxL S) (I1 : bx_Inv rxL S) (hinv : rxIQCZ_16 S0 ws S pt ps a7_ b7_) (l8 : 0 ≤ pt) (u8 : pt ≤ 1522) (l9 : 0 ≤ ps) (u9 : ps ≤ 1522) (l10 : 0 ≤ a7_) (u10 : a7_ ≤ 1522) (l11 : 0 ≤ b7_) (u11 : b7_ ≤ 1522) : (True) ∧ rxPSQCZ S0 ws S none := by
  obtain ⟨t, s, hpt, hps, hw, hm, h0, h1, h2, h3, h4, h5, h6, h7, h8, h9, hf, ho⟩ := hinv
  refine ⟨trivial, rfl, fun t2 s2 e => ?_⟩
  have z0 := hw.symm.trans e
  have z1 : (t : Int) = (t2 : Int) := Option.some.inj (congrArg (fun l : List Int => l[0]?) z0)
  have z2 : (s : Int) = (s2 : Int) := Option.some.inj (congrArg (fun l : List Int => l[1]?) z0)
  have z1 : t = t2 := by omega
  have z2 : s = s2 := by omega
  subst z1
  subst z2
  exact ⟨h0, h1, h2, h3, h4, h5, h6, h7, h8, h9, hf, ho⟩
theorem rxfQCZ_16_0 {X : (Nat → Int → Int) → Prop} {S0 : Nat → Int → Int} {ws : List Int} (hP : rxPQCZ S0 ws) : bx_obE rxL X S0 rxCQCZ.2.2.1 (rxIQCZ S0 ws) (rxPSQCZ S0 ws) 16 rxzQCZ_16 rxeQCZ_16_0 := by
  intro S S_p r r_p hinv hX hin hsm_ hseg
  obtain ⟨I0, I1, h0_, hr_, b_, f_, d_⟩ := bx_cl (evs := []) (fvs := []) hseg (by decide +kernel) (by decide +kernel)
  have hinv : rxIQCZ_16 S0 ws S (r 8) (r 9) (r 10) (r 11) := hinv
  rw [← hr_ 8 (by decide), ← hr_ 9 (by decide), ← hr_ 10 (by decide), ← hr_ 11 (by decide)] at hinv
  obtain ⟨⟨l8, u8⟩, ⟨l9, u9⟩, ⟨l10, u10⟩, ⟨l11, u11⟩, -⟩ := b_
  have w_ := d_
  subst w_
  have g := rxdQCZ_16_0 hP hin hsm_ I0 I1 hinv l8 u8 l9 u9 l10 u10 l11 u11
  refine ⟨bx_narP_ok (l := []) g.1, ?_⟩
  exact g.2
theorem rxgCQCZ {X : (Nat → Int → Int) → Prop} {S0 : Nat → Int → Int} {ws : List Int} (hP : rxPQCZ S0 ws) : bx_allI (fun i q => rxUQCZ q = true ∨ bx_allP (fun o => bx_obC rxL X S0 rxCQCZ.2.2.1 (rxIQCZ S0 ws) (rxmQCZ S0 ws) i q.1 o) q.2.1) 0 rxYQCZ := ⟨Or.inr ⟨rxgQCZ_0_0 hP, trivial⟩, Or.inl rfl, Or.inr ⟨rxgQCZ_2_0 hP, trivial⟩, Or.inl rfl, Or.inr ⟨rxgQCZ_4_0 hP, trivial⟩, Or.inl rfl, Or.inr ⟨rxgQCZ_6_0 hP, trivial⟩, Or.inl rfl, Or.inr ⟨rxgQCZ_8_0 hP, trivial⟩, Or.inl rfl, Or.inr ⟨rxgQCZ_10_0 hP, trivial⟩, Or.inl rfl, Or.inr ⟨rxgQCZ_12_0 hP, trivial⟩, Or.inl rfl, Or.inr ⟨rxgQCZ_14_0 hP, trivial⟩, Or.inl rfl, Or.inr trivial, trivial⟩
theorem rxgEQCZ {X : (Nat → Int → Int) → Prop} {S0 : Nat → Int → Int} {ws : List Int} (hP : rxPQCZ S0 ws) : bx_allI (fun i q => rxUQCZ q = true ∨ bx_allP (fun E => bx_obE rxL X S0 rxCQCZ.2.2.1 (rxIQCZ S0 ws) (rxPSQCZ S0 ws) i q.1 E) q.2.2) 0 rxYQCZ := ⟨Or.inr trivial, Or.inl rfl, Or.inr trivial, Or.inl rfl, Or.inr trivial, Or.inl rfl, Or.inr trivial, Or.inl rfl, Or.inr trivial, Or.inl rfl, Or.inr trivial, Or.inl rfl, Or.inr trivial, Or.inl rfl, Or.inr trivial, Or.inl rfl, Or.inr ⟨rxfQCZ_16_0 hP, trivial⟩, trivial⟩
theorem rxuQCZ {PX : State → Prop} {Dg : va_G} {A : Nat → Prop} {ad xa : Nat → Nat} {l : Launch} {X : (Nat → Int → Int) → Prop} (hPX : rx_PXOK rxNW A PX) (hX : ∀ S S1 : Nat → Int → Int, X S → bx_same rxL (bx_mdl rxCQCZ.2.2.1) S S1 → X S1) {S0 : Nat → Int → Int} {ws : List Int} (hP : rxPQCZ S0 ws) : ∀ (i : Nat) (q : bx_HE), rxYQCZ[i]? = some q → rxUQCZ q = true → ∀ {p : Program} {e : Env} {R : Room} {s : State} {m : MethodId} {args : Array Value} {below : List Frame} {meth : Method} {c : Code} {Q : State → Prop} {H0 : Heap}, rx_Fr rxG rxNW rxAO PX p s m args meth c rxM95 → (∀ q, H0.size ≤ q → A q) → H0 = s.heap → rxM95.2.2.2.2.2.2.1 ≤ R.cells → rxM95.2.2.2.2.2.2.2 ≤ R.slots → rxCQCZ.2.2.2.1 ≤ R.frames → rxCQCZ.2.2.2.1 * 40 ≤ R.locals → bx_Step p l e R s m args below meth c Q Dg rxL X vwCl A xa H0 ad rxM95 rxYQCZ (rxIQCZ S0 ws) (rxmQCZ S0 ws) S0 rxCQCZ.2.2.1 i q := by
  intro i q hq hus p e R s m args below meth c Q H0 hF hA hH0 hmc hms hd hdl
  match i, hq with
  | 0, hq =>
    cases hq
    exact absurd (show false = true from hus) Bool.false_ne_true
  | 1, hq =>
    cases hq
    exact rk_stepZ (i_p := 2) (idx := 47) (w0 := ((9, 1))) (w1 := ((8, 1))) (n := 400) (t := []) hF rfl (Nat.le_trans (by decide) hd) (Nat.le_trans (by decide) hdl) (by decide +kernel) (by decide +kernel) rfl rfl (by decide) (by decide) rfl rfl (rxsQCZ_1 hP hX)
  | 2, hq =>
    cases hq
    exact absurd (show false = true from hus) Bool.false_ne_true
  | 3, hq =>
    cases hq
    exact rk_stepZ (i_p := 4) (idx := 47) (w0 := ((9, 2))) (w1 := ((8, 2))) (n := 400) (t := []) hF rfl (Nat.le_trans (by decide) hd) (Nat.le_trans (by decide) hdl) (by decide +kernel) (by decide +kernel) rfl rfl (by decide) (by decide) rfl rfl (rxsQCZ_3 hP hX)
  | 4, hq =>
    cases hq
    exact absurd (show false = true from hus) Bool.false_ne_true
  | 5, hq =>
    cases hq
    exact rk_stepZ (i_p := 6) (idx := 47) (w0 := ((9, 4))) (w1 := ((8, 4))) (n := 12) (t := []) hF rfl (Nat.le_trans (by decide) hd) (Nat.le_trans (by decide) hdl) (by decide +kernel) (by decide +kernel) rfl rfl (by decide) (by decide) rfl rfl (rxsQCZ_5 hP hX)
  | 6, hq =>
    cases hq
    exact absurd (show false = true from hus) Bool.false_ne_true
  | 7, hq =>
    cases hq
    exact rk_stepZ (i_p := 8) (idx := 47) (w0 := ((9, 5))) (w1 := ((8, 5))) (n := 12) (t := []) hF rfl (Nat.le_trans (by decide) hd) (Nat.le_trans (by decide) hdl) (by decide +kernel) (by decide +kernel) rfl rfl (by decide) (by decide) rfl rfl (rxsQCZ_7 hP hX)
  | 8, hq =>
    cases hq
    exact absurd (show false = true from hus) Bool.false_ne_true
  | 9, hq =>
    cases hq
    exact rk_stepZ (i_p := 10) (idx := 47) (w0 := ((9, 6))) (w1 := ((8, 6))) (n := 12) (t := []) hF rfl (Nat.le_trans (by decide) hd) (Nat.le_trans (by decide) hdl) (by decide +kernel) (by decide +kernel) rfl rfl (by decide) (by decide) rfl rfl (rxsQCZ_9 hP hX)
  | 10, hq =>
    cases hq
    exact absurd (show false = true from hus) Bool.false_ne_true
  | 11, hq =>
    cases hq
    exact rk_stepZ (i_p := 12) (idx := 47) (w0 := ((10, 0))) (w1 := ((11, 0))) (n := 12) (t := []) hF rfl (Nat.le_trans (by decide) hd) (Nat.le_trans (by decide) hdl) (by decide +kernel) (by decide +kernel) rfl rfl (by decide) (by decide) rfl rfl (rxsQCZ_11 hP hX)
  | 12, hq =>
    cases hq
    exact absurd (show false = true from hus) Bool.false_ne_true
  | 13, hq =>
    cases hq
    exact rk_stepZ (i_p := 14) (idx := 47) (w0 := ((10, 0))) (w1 := ((11, 0))) (n := 12) (t := []) hF rfl (Nat.le_trans (by decide) hd) (Nat.le_trans (by decide) hdl) (by decide +kernel) (by decide +kernel) rfl rfl (by decide) (by decide) rfl rfl (rxsQCZ_13 hP hX)
  | 14, hq =>
    cases hq
    exact absurd (show false = true from hus) Bool.false_ne_true
  | 15, hq =>
    cases hq
    exact rk_stepZ (i_p := 16) (idx := 47) (w0 := ((10, 0))) (w1 := ((11, 0))) (n := 12) (t := []) hF rfl (Nat.le_trans (by decide) hd) (Nat.le_trans (by decide) hdl) (by decide +kernel) (by decide +kernel) rfl rfl (by decide) (by decide) rfl rfl (rxsQCZ_15 hP hX)
  | 16, hq =>
    cases hq
    exact absurd (show false = true from hus) Bool.false_ne_true
  | n + 17, hq => cases hq
theorem rxQQCZ {PX : State → Prop} {Dg : va_G} {A : Nat → Prop} {ad xa : Nat → Nat} {l : Launch} {X : (Nat → Int → Int) → Prop} (hPX : rx_PXOK rxNW A PX) (hsl : ∀ s : State, PX s → ∀ o idx n : Nat, rxSl o idx = some n → ∃ tx : String, vk_R (rxNm o) idx tx (ad n) s)
    (hX : ∀ S S_p : Nat → Int → Int, X S → bx_same rxL (bx_mdl rxCQCZ.2.2.1) S S_p → X S_p)
    (ih : ∀ (j2 : Nat) (ct2 : bx_Ct) (M2 : rx_Mt), ct2 ∈ rxCnE j2 → ct2.2.2.2.1 + 1 ≤ rxCQCZ.2.2.2.1 → rxT.2.2.2.2.2 j2 = some M2 → bx_Con rxG rxNW rxAO PX Dg rxL X vwCl A ad l M2 ct2) : bx_ConP rxG rxNW rxAO PX Dg rxL X vwCl A ad l rxM95 rxCQCZ rxPQCZ rxPSQCZ :=
  rxQof (xa := xa) (Cn := rxCnE) (f := 30000) (j := 95) (tab := rxYQCZ) (us := rxUQCZ) hPX hsl hX ih rfl rxYcQCZ rxIQCZ rxmQCZ
    (fun S0 ws r I0 I ht0 ht as he he1 hX0 hI0 hP hs ha => by
      have e := he.symm.trans (show bx_ent0 rxNP rxCQCZ.1 bx_I0 [] = some ([(0, 0), (0, 0), (0, 0), (0, 0), (0, 0), (0, 0), (0, 0), (0, 0), (0, 1522), (0, 1522)], [(((9, 0), 1000007), .inl none), (((8, 0), 1000007), .inl none)], [.inr (3, (8, 0)), .inr (3, (9, 0))]) from rfl)
      cases e
      subst ha
      have h0 : r 0 = 0 := hs.1
      show rxIQCZ_0 S0 _ S0 (r 8) (r 9)
      refine ⟨rfl, ?_⟩
      simp only [List.map_cons, List.map_nil, bx_xv_ok h0]
      rfl)
    (fun S0 ws hP => rxuQCZ (xa := xa) hPX hX hP) (fun S0 ws hP => rxgCQCZ hP) (fun S0 ws hP => rxgEQCZ hP)
