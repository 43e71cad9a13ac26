section
section RYX
variable {G NW : List Jvm.Cond} {AO : List String} {cl : List vw_C} {nm : Nat → String} {A : Nat → Prop} {xa : Nat → Nat} {PX : State → Prop} {l : Launch} {D : va_G}
variable {p : Program} {e : Env} {R : Room} {s : State} {m : MethodId} {args : Array Value} {below : List Frame} {meth : Method} {c : Code} {Q : State → Prop} {H0 H : Heap} {locs : List Loc} {ls : Array Slot} {r : Nat → Int} {ad : Nat → Nat}
variable {M : ry_Mt} {z : ry_Z} {zs : List ry_Z} {d idx : Nat}
theorem ry_x_init_ok (hF : ry_Fr G NW AO PX p s m args meth c M) (hn : nm M.1 = M.2.2.2.2.1.cls) (hd : d ≤ R.frames) (hdl : d * 40 ≤ R.locals) (hw : Jvm.Cond.methodLink (nm M.1) idx Lib.objectInit ∈ G ∧ Jvm.Cond.instanceMethod Lib.objectInit ∈ G ∧ Jvm.Cond.code Lib.objectInit ⟨#[0xb1]⟩ 1 none ∈ G)
    (hdg : decode M.2.1 (ry_zpc z) = .ok (.invokespecial idx, 3)) (hR : ry_R D cl A s xa M.2.2.1 H0 z r ad H locs ls) (hz : ry_x_init d z = some zs) (K : ∀ z_p ∈ zs, ry_G p l e R s m args below meth c Q D cl A xa M.2.2.1 H0 z.1.length z.2.2.1.length r ad z_p) :
    W p l e R s m args below meth c H locs z.2.2.2.1 z.2.2.2.2.1 Q (F0 m (ry_zpc z) ls ((ry_zst z).map (ry_iv r ad xa))) := by
  unfold ry_x_init at hz
  split at hz
  · rename_i k t hp
    obtain ⟨h1, hz⟩ := ry_if_ok hz
    rw [Bool.and_eq_true, decide_eq_true_eq, decide_eq_true_eq] at h1
    cases hz
    have he := ry_pr_ok hp
    have hst := ry_stsc hR
    rw [he] at hst ⊢
    obtain ⟨hx, hb, hr, hml, hown, hlk, hts, -⟩ := id hF
    rw [hn] at hw
    refine W.objInit hx hb hown (hts _ hw.1) (hts _ hw.2.1) (hts _ hw.2.2) (g := F0 m (ry_zpc z) ls _) rfl (by show ls.size = c.maxLocals; rw [hml]; exact (ry_lvh hR).1) rfl hdg (Nat.le_trans h1.1 hd) ?_ ?_
    · show 2 * 0 + ((t.map (ry_iv r ad xa)).map fun v => v.category).sum + 12 ≤ R.locals
      rw [ry_cats_sum]
      omega
    · exact ry_at (K _ List.mem_cons_self) ry_same.rf ry_sameA.rf (ry_R_nx hR (fun v hv => hst v (List.mem_cons_of_mem _ hv))) rfl rfl rfl rfl
  · cases hz
end RYX
end
section
noncomputable def ry_lku {α : Type} : List (Nat × α) → Nat → Option α
  | [], _ => none
  | q :: l, i => if q.1 = i then some q.2 else ry_lku l i
noncomputable def ryNm (o : Nat) : String := match o with
  | 0 => RX0
  | 1 => RX1
  | 2 => RX2
  | 3 => RX3
  | 4 => RX4
  | 5 => RX5
  | 6 => RX6
  | 7 => RX7
  | 8 => RX8
  | 9 => RX9
  | 10 => RX10
  | 11 => RX11
  | 12 => RX12
  | 13 => RL
  | _ => ""
noncomputable def ryNW : List Jvm.Cond := [Cond.methodLinkNest RX1 11 yX5_init "DeadUnderstudies", Cond.methodLinkNest RX7 34 yX6_init "DeadUnderstudies", Cond.methodLinkNest RX10 30 yX5_init "DeadUnderstudies", Cond.methodLinkNest RX10 58 yX2_init "DeadUnderstudies", Cond.methodLinkNest RX10 85 yX6_init "DeadUnderstudies", Cond.methodLinkNest RX11 34 yX7_init "DeadUnderstudies", Cond.methodLinkNest RX11 41 yX6_init "DeadUnderstudies", Cond.methodLinkNest RX11 57 yX8_init "DeadUnderstudies", Cond.methodLinkNest RX11 64 yX3_init "DeadUnderstudies", Cond.methodLinkNest RX11 71 yX4_init "DeadUnderstudies", Cond.methodLinkNest RX11 78 yX1_init "DeadUnderstudies", Cond.methodLinkNest RX11 85 yX0_init "DeadUnderstudies"]
noncomputable def ryAO : List String := [RX9, RX6, RX10]
noncomputable def ryFrL0 : List (Nat × ry_Q × Nat) := [(9, (0, 0, 0, false, false), 216), (15, (0, 1, 0, false, false), 217), (18, (0, 2, 3, true, false), 218), (22, (0, 3, 3, true, false), 219), (25, (0, 4, 3, true, false), 220), (29, (0, 5, 3, true, false), 221), (32, (0, 6, 3, true, false), 222), (35, (0, 7, 3, true, false), 223), (38, (0, 8, 0, false, false), 224), (41, (0, 9, 0, false, false), 225)]
noncomputable def ryFrL1 : List (Nat × ry_Q × Nat) := [(12, (1, 0, 3, false, false), 204), (18, (1, 1, 3, true, false), 205), (22, (1, 2, 3, true, false), 206), (26, (1, 3, 3, true, false), 207), (29, (1, 4, 3, true, false), 208), (32, (1, 5, 0, false, false), 209), (36, (1, 6, 0, false, false), 210), (39, (1, 7, 0, false, false), 211), (42, (1, 8, 0, false, false), 212)]
noncomputable def ryFrL2 : List (Nat × ry_Q × Nat) := [(9, (2, 0, 0, false, false), 102), (15, (2, 1, 3, true, false), 103), (19, (2, 2, 3, true, false), 104), (22, (2, 3, 3, true, false), 105), (25, (2, 4, 3, true, false), 106)]
noncomputable def ryFrL3 : List (Nat × ry_Q × Nat) := [(12, (3, 0, 3, true, false), 167), (18, (3, 1, 3, true, false), 168), (21, (3, 2, 1, false, false), 169), (25, (3, 3, 0, false, false), 170), (29, (3, 4, 0, false, false), 171), (32, (3, 5, 1, false, false), 172), (35, (3, 6, 0, false, false), 173), (38, (3, 7, 3, true, false), 174), (42, (3, 8, 0, false, false), 175), (45, (3, 9, 0, false, false), 176), (48, (3, 10, 0, false, false), 177), (51, (3, 11, 0, false, false), 178), (54, (3, 12, 0, false, false), 179), (57, (3, 13, 0, false, false), 180), (60, (3, 14, 0, false, false), 181)]
noncomputable def ryFrL4 : List (Nat × ry_Q × Nat) := [(9, (4, 0, 0, false, false), 186), (15, (4, 1, 3, true, false), 187), (19, (4, 2, 3, true, false), 188), (22, (4, 3, 3, true, false), 189), (25, (4, 4, 3, true, false), 190), (28, (4, 5, 0, false, false), 191), (31, (4, 6, 0, false, false), 192), (34, (4, 7, 0, false, false), 193), (37, (4, 8, 1, false, false), 194), (41, (4, 9, 0, false, false), 195), (44, (4, 10, 0, false, false), 196), (47, (4, 11, 3, true, false), 197), (50, (4, 12, 3, true, false), 198), (53, (4, 13, 3, true, false), 199)]
noncomputable def ryFrL5 : List (Nat × ry_Q × Nat) := [(9, (5, 0, 0, false, false), 95), (15, (5, 1, 3, true, false), 96), (19, (5, 2, 3, true, false), 97), (22, (5, 3, 3, true, false), 98)]
noncomputable def ryFrL6 : List (Nat × ry_Q × Nat) := [(9, (6, 0, 0, false, false), 124), (15, (6, 1, 3, true, false), 125), (19, (6, 2, 3, true, false), 126), (22, (6, 3, 3, true, false), 128), (26, (6, 4, 0, false, false), 129), (29, (6, 5, 3, true, false), 130), (32, (6, 6, 3, true, false), 131), (35, (6, 7, 3, true, false), 132), (38, (6, 8, 3, true, false), 133), (41, (6, 9, 3, true, false), 134), (44, (6, 10, 3, true, false), 135)]
noncomputable def ryFrL7 : List (Nat × ry_Q × Nat) := [(9, (7, 0, 3, false, false), 139), (15, (7, 1, 0, false, false), 140), (19, (7, 2, 0, false, false), 141), (22, (7, 3, 0, false, false), 142), (25, (7, 4, 0, false, false), 143), (28, (7, 5, 1, false, false), 144), (35, (7, 6, 3, false, false), 146), (39, (7, 7, 0, false, false), 147), (42, (7, 8, 0, false, false), 148), (45, (7, 9, 3, true, false), 149), (48, (7, 10, 0, false, false), 150), (51, (7, 11, 3, true, false), 151), (54, (7, 12, 3, true, false), 152)]
noncomputable def ryFrL8 : List (Nat × ry_Q × Nat) := [(11, (8, 0, 3, true, false), 156), (15, (8, 1, 3, true, false), 157), (18, (8, 2, 3, true, false), 158), (21, (8, 3, 3, true, false), 159), (24, (8, 4, 2, false, false), 160), (28, (8, 5, 0, false, false), 161), (32, (8, 6, 0, false, false), 162)]
noncomputable def ryFrL9 : List (Nat × ry_Q × Nat) := [(9, (9, 0, 3, true, false), 111), (15, (9, 1, 3, true, false), 112)]
noncomputable def ryFrL10 : List (Nat × ry_Q × Nat) := [(9, (10, 0, 0, false, false), 65), (15, (10, 1, 3, true, false), 66), (19, (10, 2, 3, true, false), 67), (24, (10, 3, 3, true, false), 69), (31, (10, 4, 3, true, false), 73), (35, (10, 5, 0, false, false), 74), (38, (10, 6, 3, true, false), 75), (41, (10, 7, 3, true, false), 76), (44, (10, 8, 3, true, false), 77), (47, (10, 9, 3, true, false), 78), (50, (10, 10, 0, false, false), 79), (53, (10, 11, 3, true, false), 80), (59, (10, 12, 3, true, false), 84), (63, (10, 13, 3, true, false), 85), (66, (10, 14, 0, false, false), 86), (69, (10, 15, 0, false, false), 87), (74, (10, 16, 3, true, false), 89), (78, (10, 17, 3, true, false), 90), (81, (10, 18, 3, true, false), 91)]
noncomputable def ryFrL11 : List (Nat × ry_Q × Nat) := [(12, (11, 0, 3, true, false), 15), (16, (11, 1, 3, true, false), 16), (20, (11, 2, 3, true, false), 18), (24, (11, 3, 3, true, false), 20), (28, (11, 4, 0, false, false), 21), (35, (11, 5, 3, true, false), 25), (42, (11, 6, 3, true, false), 29), (46, (11, 7, 0, false, false), 30), (49, (11, 8, 0, false, false), 31), (52, (11, 9, 3, true, false), 32), (58, (11, 10, 3, true, false), 36), (65, (11, 11, 3, true, false), 40), (72, (11, 12, 3, true, false), 44), (79, (11, 13, 3, true, false), 48), (86, (11, 14, 3, true, false), 52), (90, (11, 15, 3, true, false), 53), (93, (11, 16, 1, false, false), 54), (100, (11, 17, 3, true, false), 58), (104, (11, 18, 3, true, false), 59), (107, (11, 19, 0, false, false), 60)]
noncomputable def ryFrL12 : List (Nat × ry_Q × Nat) := [(7, (12, 2, 3, true, false), 231), (13, (12, 3, 3, true, false), 232), (16, (12, 4, 3, true, false), 233), (19, (12, 5, 3, true, false), 234), (23, (12, 7, 3, true, false), 235), (26, (12, 13, 0, false, false), 236), (30, (12, 17, 3, true, false), 237), (33, (12, 19, 3, true, false), 238), (36, (12, 20, 3, true, false), 239), (39, (12, 22, 3, true, false), 240), (42, (12, 23, 3, true, false), 241), (61, (12, 26, 3, true, false), 250), (73, (12, 27, 3, true, false), 255), (76, (12, 29, 3, true, false), 256), (79, (12, 30, 3, true, false), 257), (82, (12, 31, 3, true, false), 258), (85, (12, 35, 3, true, false), 259), (88, (12, 36, 3, true, false), 260), (91, (12, 38, 3, true, false), 261), (94, (12, 39, 3, true, false), 262), (97, (12, 40, 3, true, false), 263), (100, (12, 41, 3, true, false), 264), (103, (12, 43, 3, true, false), 265), (106, (12, 44, 3, true, false), 266), (109, (12, 50, 3, true, false), 267), (112, (12, 51, 3, true, false), 268), (115, (12, 52, 3, true, false), 269), (118, (12, 53, 3, true, false), 270), (121, (12, 55, 3, true, false), 271), (124, (12, 56, 3, true, false), 272), (127, (12, 57, 3, true, false), 273), (130, (12, 60, 3, true, false), 274), (133, (12, 61, 3, true, false), 275), (136, (12, 62, 3, true, false), 276), (139, (12, 63, 3, true, false), 277), (142, (12, 64, 3, true, false), 278), (145, (12, 65, 3, true, false), 279), (148, (12, 66, 3, true, false), 280), (151, (12, 67, 3, true, false), 281), (154, (12, 68, 3, true, false), 282), (157, (12, 72, 3, true, false), 283), (160, (12, 73, 3, true, false), 284)]
noncomputable def ryFrL (o : Nat) : List (Nat × ry_Q × Nat) := match o with
  | 0 => ryFrL0
  | 1 => ryFrL1
  | 2 => ryFrL2
  | 3 => ryFrL3
  | 4 => ryFrL4
  | 5 => ryFrL5
  | 6 => ryFrL6
  | 7 => ryFrL7
  | 8 => ryFrL8
  | 9 => ryFrL9
  | 10 => ryFrL10
  | 11 => ryFrL11
  | 12 => ryFrL12
  | _ => []
noncomputable def ryCrL1 : List (Nat × (Nat × List Nat) × Nat × Nat × Nat) := [(9, (5, [0, 3, 3, 3]), 203, 71, 72)]
noncomputable def ryCrL3 : List (Nat × (Nat × List Nat) × Nat × Nat × Nat) := [(9, (9, [3, 3]), 166, 56, 57)]
noncomputable def ryCrL7 : List (Nat × (Nat × List Nat) × Nat × Nat × Nat) := [(32, (6, [0, 3, 3, 3, 0, 3, 3, 3, 3, 3, 3]), 145, 27, 28)]
noncomputable def ryCrL10 : List (Nat × (Nat × List Nat) × Nat × Nat × Nat) := [(22, (9, [3, 3]), 68, 56, 57), (28, (5, [0, 3, 3, 3]), 70, 71, 72), (56, (2, [0, 3, 3, 3, 3]), 81, 82, 83), (72, (6, [0, 3, 3, 3, 0, 3, 3, 3, 3, 3, 3]), 88, 27, 28)]
noncomputable def ryCrL11 : List (Nat × (Nat × List Nat) × Nat × Nat × Nat) := [(9, (10, [0, 3, 3, 3, 3, 0, 3, 3, 3, 3, 0, 3, 3, 3, 0, 0, 3, 3, 3]), 12, 13, 14), (32, (7, [3, 0, 0, 0, 0, 1, 3, 0, 0, 3, 0, 3, 3]), 22, 23, 24), (39, (6, [0, 3, 3, 3, 0, 3, 3, 3, 3, 3, 3]), 26, 27, 28), (55, (8, [3, 3, 3, 3, 2, 0, 0]), 33, 34, 35), (62, (3, [3, 3, 1, 0, 0, 1, 0, 3, 0, 0, 0, 0, 0, 0, 0]), 37, 38, 39), (69, (4, [0, 3, 3, 3, 3, 0, 0, 0, 1, 0, 0, 3, 3, 3]), 41, 42, 43), (76, (1, [3, 3, 3, 3, 3, 0, 0, 0, 0]), 45, 46, 47), (83, (0, [0, 0, 3, 3, 3, 3, 3, 3, 0, 0]), 49, 50, 51), (97, (9, [3, 3]), 55, 56, 57)]
noncomputable def ryCrL13 : List (Nat × (Nat × List Nat) × Nat × Nat × Nat) := [(7, (11, [3, 3, 3, 3, 0, 3, 3, 0, 0, 3, 3, 3, 3, 3, 3, 3, 1, 3, 3, 0]), 0, 1, 2), (10, (12, [0, 0, 3, 3, 3, 3, 0, 3, 0, 0, 0, 0, 2, 0, 1, 1, 0, 3, 0, 3, 3, 0, 3, 3, 0, 0, 3, 3, 0, 3, 3, 3, 1, 2, 2, 3, 3, 0, 3, 3, 3, 3, 0, 3, 3, 0, 0, 0, 0, 0, 3, 3, 3, 3, 0, 3, 3, 3, 0, 0, 3, 3, 3, 3, 3, 3, 3, 3, 3, 0, 0, 2, 3, 3, 0, 1]), 3, 4, 5)]
noncomputable def ryCrL (o : Nat) : List (Nat × (Nat × List Nat) × Nat × Nat × Nat) := match o with
  | 1 => ryCrL1
  | 3 => ryCrL3
  | 7 => ryCrL7
  | 10 => ryCrL10
  | 11 => ryCrL11
  | 13 => ryCrL13
  | _ => []
noncomputable def ryArL10 : List (Nat × Nat × Nat) := [(22, 9, 68), (72, 6, 88)]
noncomputable def ryArL11 : List (Nat × Nat × Nat) := [(9, 10, 12)]
noncomputable def ryArL (o : Nat) : List (Nat × Nat × Nat) := match o with
  | 10 => ryArL10
  | 11 => ryArL11
  | _ => []
noncomputable def ryKcL12 : List (Nat × Nat × Int × Nat) := [(45, 1, 542723566, 242), (47, 1, 441892441, 243), (49, 1, 81486, 244), (51, 1, 136228, 245), (53, 1, 525908, 246), (55, 1, 21643763890, 247), (57, 1, 824370, 248), (59, 1, 441828, 249), (65, 1, 20579973, 251), (67, 1, 3749, 252), (69, 1, 769604, 253), (71, 1, 464660, 254)]
noncomputable def ryKcL (o : Nat) : List (Nat × Nat × Int × Nat) := match o with
  | 12 => ryKcL12
  | _ => []
noncomputable def ryCjL1 : List (Nat × ry_J × Nat) := [(11, (5, 0, 5, 0), 0)]
noncomputable def ryCjL3 : List (Nat × ry_J × Nat) := [(11, (2, 0, 9, 1), 182)]
noncomputable def ryCjL7 : List (Nat × ry_J × Nat) := [(34, (5, 0, 6, 2), 1)]
noncomputable def ryCjL9 : List (Nat × ry_J × Nat) := [(18, (0, 0, 9, 13), 113)]
noncomputable def ryCjL10 : List (Nat × ry_J × Nat) := [(30, (5, 0, 5, 0), 2), (58, (5, 0, 2, 3), 3), (84, (2, 0, 9, 1), 107), (85, (5, 0, 6, 2), 4)]
noncomputable def ryCjL11 : List (Nat × ry_J × Nat) := [(11, (2, 0, 10, 4), 61), (34, (5, 0, 7, 5), 5), (41, (5, 0, 6, 2), 6), (57, (5, 0, 8, 6), 7), (64, (5, 0, 3, 7), 8), (71, (5, 0, 4, 8), 9), (78, (5, 0, 1, 9), 10), (85, (5, 0, 0, 10), 11), (99, (2, 0, 9, 1), 226)]
noncomputable def ryCjL13 : List (Nat × ry_J × Nat) := [(9, (2, 0, 11, 12), 6), (12, (2, 0, 12, 11), 227)]
noncomputable def ryCjL (o : Nat) : List (Nat × ry_J × Nat) := match o with
  | 1 => ryCjL1
  | 3 => ryCjL3
  | 7 => ryCjL7
  | 9 => ryCjL9
  | 10 => ryCjL10
  | 11 => ryCjL11
  | 13 => ryCjL13
  | _ => []
noncomputable def ryXtL0 : List (Nat × Nat) := [(3, 10)]
noncomputable def ryXtL1 : List (Nat × Nat) := [(3, 10)]
noncomputable def ryXtL2 : List (Nat × Nat) := [(3, 10)]
noncomputable def ryXtL3 : List (Nat × Nat) := [(3, 10)]
noncomputable def ryXtL4 : List (Nat × Nat) := [(3, 10)]
noncomputable def ryXtL5 : List (Nat × Nat) := [(3, 10)]
noncomputable def ryXtL6 : List (Nat × Nat) := [(3, 10)]
noncomputable def ryXtL7 : List (Nat × Nat) := [(3, 10)]
noncomputable def ryXtL8 : List (Nat × Nat) := [(3, 10)]
noncomputable def ryXtL9 : List (Nat × Nat) := [(3, 10), (21, 12)]
noncomputable def ryXtL10 : List (Nat × Nat) := [(3, 10)]
noncomputable def ryXtL11 : List (Nat × Nat) := [(3, 10)]
noncomputable def ryXtL12 : List (Nat × Nat) := [(1, 10)]
noncomputable def ryXtL (o : Nat) : List (Nat × Nat) := match o with
  | 0 => ryXtL0
  | 1 => ryXtL1
  | 2 => ryXtL2
  | 3 => ryXtL3
  | 4 => ryXtL4
  | 5 => ryXtL5
  | 6 => ryXtL6
  | 7 => ryXtL7
  | 8 => ryXtL8
  | 9 => ryXtL9
  | 10 => ryXtL10
  | 11 => ryXtL11
  | 12 => ryXtL12
  | _ => []
noncomputable def ryStL (o : Nat) : List (Nat × Nat) := match o with
  | _ => []
noncomputable def rySlen : List Nat := [0]
noncomputable def ryM0 : ry_Mt := (5, cX5_init, 1, none, yX5_init, true, 3, 24)
noncomputable def ryM1 : ry_Mt := (9, cX9_init, 1, none, yX9_init, true, 2, 72)
noncomputable def ryM2 : ry_Mt := (6, cX6_init, 1, none, yX6_init, true, 9, 936)
noncomputable def ryM3 : ry_Mt := (2, cX2_init, 1, none, yX2_init, true, 4, 40)
noncomputable def ryM4 : ry_Mt := (10, cX10_init, 2, none, yX10_init, true, 135, 7185)
noncomputable def ryM5 : ry_Mt := (7, cX7_init, 1, none, yX7_init, true, 14, 1756)
noncomputable def ryM6 : ry_Mt := (8, cX8_init, 1, none, yX8_init, true, 4, 144)
noncomputable def ryM7 : ry_Mt := (3, cX3_init, 1, none, yX3_init, true, 7, 580)
noncomputable def ryM8 : ry_Mt := (4, cX4_init, 1, none, yX4_init, true, 7, 88)
noncomputable def ryM9 : ry_Mt := (1, cX1_init, 1, none, yX1_init, true, 8, 116)
noncomputable def ryM10 : ry_Mt := (0, cX0_init, 1, none, yX0_init, true, 6, 540)
noncomputable def ryM11 : ry_Mt := (12, cX12_init, 1, none, yX12_init, true, 41, 22483)
noncomputable def ryM12 : ry_Mt := (11, cX11_init, 1, none, yX11_init, true, 479, 26353)
noncomputable def ryM13 : ry_Mt := (9, cX9_clear, 1, none, yX9_clear, false, 0, 0)
noncomputable def ryMos0 : List ry_Mt := [ryM0, ryM1, ryM2, ryM3, ryM4, ryM5, ryM6, ryM7, ryM8, ryM9, ryM10, ryM11, ryM12, ryM13]
noncomputable def ryMos : List (List ry_Mt) := [ryMos0]
noncomputable def ry_nth {α : Type} : List α → Nat → Option α
  | [], _ => none
  | a :: l, n => match n with
    | 0 => some a
    | m + 1 => ry_nth l m
noncomputable def ryMtF (j : Nat) : Option ry_Mt := match ry_nth ryMos (Nat.div j 16) with
  | some l => ry_nth l (Nat.mod j 16)
  | none => none
noncomputable def ryIm : ry_Im := fun _ _ _ => false
noncomputable def ryT : ry_Tb := (fun o i => (ry_lku (ryFrL o) i).map (fun q => q.1), fun o i => (ry_lku (ryCrL o) i).map (fun q => q.1), fun o i => (ry_lku (ryArL o) i).map (fun q => q.1), fun o i => (ry_lku (ryKcL o) i).map (fun q => .inr (q.1, (0, q.2.1))), fun o i => (ry_lku (ryCjL o) i).map (fun q => q.1), ryMtF)
noncomputable def ryXh : ry_Xh := ry_xh (fun o i => ry_lku (ryXtL o) i) (fun o i => ry_lku (ryStL o) i) rySlen ryIm
end
section
noncomputable def ryMlaw : ry_Mt := (13, code, 4, ret, x, false, 600000, 7302250)
noncomputable def ryE0_0 : List (Option ry_Ent) := [some (.inl (fun _ => ry_q_loadA 0 1)), some (.inl (ry_x_init)), none, none, some (.inl (fun _ => ry_q_loadA 0 1)), some (.inl (fun _ => ry_h_push (ry_n 0) 1)), some (.inl (fun _ => ry_q_put (5, 0, 0, false, false) true)), none, none, some (.inl (fun _ => ry_q_loadA 0 1)), some (.inl (fun _ => ry_h_push (ry_n 8) 2)), none, some (.inl (fun _ => ry_q_newa 3 24 0)), none, some (.inl (fun _ => ry_q_put (5, 1, 3, true, false) true))]
noncomputable def ryE0_1 : List (Option ry_Ent) := [none, some (.inl (fun _ => ry_q_loadA 0 1)), some (.inl (fun _ => ry_h_push (ry_n 8) 2)), none, some (.inl (fun _ => ry_q_newa 3 24 0)), none, some (.inl (fun _ => ry_q_put (5, 2, 3, true, false) true)), none, none, some (.inl (fun _ => ry_q_loadA 0 1)), some (.inl (fun _ => ry_h_push (ry_n 8) 2)), none, some (.inl (fun _ => ry_q_newa 3 24 0)), none, some (.inl (fun _ => ry_q_put (5, 3, 3, true, false) true))]
noncomputable def ryE0_2 : List (Option ry_Ent) := [none, some (.inr (.inl (ry_q_retv 3 24)))]
noncomputable def ryE0 : List (List (Option ry_Ent)) := [ryE0_0, ryE0_1, ryE0_2]
noncomputable def ryE1_0 : List (Option ry_Ent) := [some (.inl (fun _ => ry_q_loadA 0 1)), some (.inl (ry_x_init)), none, none, some (.inl (fun _ => ry_q_loadA 0 1)), some (.inl (fun _ => ry_h_push (ry_n 36) 2)), none, some (.inl (fun _ => ry_q_newa 2 72 0)), none, some (.inl (fun _ => ry_q_put (9, 0, 3, true, false) true)), none, none, some (.inl (fun _ => ry_q_loadA 0 1)), some (.inl (fun _ => ry_h_push (ry_n 36) 2)), none, some (.inl (fun _ => ry_q_newa 2 72 0))]
noncomputable def ryE1_1 : List (Option ry_Ent) := [none, some (.inl (fun _ => ry_q_put (9, 1, 3, true, false) true)), none, none, some (.inl (fun _ => ry_q_loadA 0 1)), some (.inr (.inr (13, ryM13, ry_q_vcall ryM1 ryM13 0 9))), none, none, some (.inr (.inl (ry_q_retv 2 72)))]
noncomputable def ryE1 : List (List (Option ry_Ent)) := [ryE1_0, ryE1_1]
noncomputable def ryE2_0 : List (Option ry_Ent) := [some (.inl (fun _ => ry_q_loadA 0 1)), some (.inl (ry_x_init)), none, none, some (.inl (fun _ => ry_q_loadA 0 1)), some (.inl (fun _ => ry_h_push (ry_n 0) 1)), some (.inl (fun _ => ry_q_put (6, 0, 0, false, false) true)), none, none, some (.inl (fun _ => ry_q_loadA 0 1)), some (.inl (fun _ => ry_h_push (ry_n 400) 3)), none, none, some (.inl (fun _ => ry_q_newa 9 936 0)), none, some (.inl (fun _ => ry_q_put (6, 1, 3, true, false) true))]
noncomputable def ryE2_1 : List (Option ry_Ent) := [none, none, some (.inl (fun _ => ry_q_loadA 0 1)), some (.inl (fun _ => ry_h_push (ry_n 400) 3)), none, none, some (.inl (fun _ => ry_q_newa 9 936 0)), none, some (.inl (fun _ => ry_q_put (6, 2, 3, true, false) true)), none, none, some (.inl (fun _ => ry_q_loadA 0 1)), some (.inl (fun _ => ry_h_push (ry_n 64) 2)), none, some (.inl (fun _ => ry_q_newa 9 936 2))]
noncomputable def ryE2_2 : List (Option ry_Ent) := [some (.inl (fun _ => ry_q_put (6, 3, 3, true, false) true)), none, none, some (.inl (fun _ => ry_q_loadA 0 1)), some (.inl (fun _ => ry_h_push (ry_n 0) 1)), some (.inl (fun _ => ry_q_put (6, 4, 0, false, false) true)), none, none, some (.inl (fun _ => ry_q_loadA 0 1)), some (.inl (fun _ => ry_h_push (ry_n 12) 2)), none, some (.inl (fun _ => ry_q_newa 9 936 0)), none, some (.inl (fun _ => ry_q_put (6, 5, 3, true, false) true))]
noncomputable def ryE2_3 : List (Option ry_Ent) := [some (.inl (fun _ => ry_q_loadA 0 1)), some (.inl (fun _ => ry_h_push (ry_n 12) 2)), none, some (.inl (fun _ => ry_q_newa 9 936 0)), none, some (.inl (fun _ => ry_q_put (6, 6, 3, true, false) true)), none, none, some (.inl (fun _ => ry_q_loadA 0 1)), some (.inl (fun _ => ry_h_push (ry_n 12) 2)), none, some (.inl (fun _ => ry_q_newa 9 936 0)), none, some (.inl (fun _ => ry_q_put (6, 7, 3, true, false) true))]
noncomputable def ryE2_4 : List (Option ry_Ent) := [some (.inl (fun _ => ry_q_loadA 0 1)), some (.inl (fun _ => ry_h_push (ry_n 12) 2)), none, some (.inl (fun _ => ry_q_newa 9 936 0)), none, some (.inl (fun _ => ry_q_put (6, 8, 3, true, false) true)), none, none, some (.inl (fun _ => ry_q_loadA 0 1)), some (.inl (fun _ => ry_h_push (ry_n 12) 2)), none, some (.inl (fun _ => ry_q_newa 9 936 0)), none, some (.inl (fun _ => ry_q_put (6, 9, 3, true, false) true))]
noncomputable def ryE2_5 : List (Option ry_Ent) := [some (.inl (fun _ => ry_q_loadA 0 1)), some (.inl (fun _ => ry_h_push (ry_n 12) 2)), none, some (.inl (fun _ => ry_q_newa 9 936 0)), none, some (.inl (fun _ => ry_q_put (6, 10, 3, true, false) true)), none, none, some (.inr (.inl (ry_q_retv 9 936)))]
noncomputable def ryE2 : List (List (Option ry_Ent)) := [ryE2_0, ryE2_1, ryE2_2, ryE2_3, ryE2_4, ryE2_5]
noncomputable def ryE3_0 : List (Option ry_Ent) := [some (.inl (fun _ => ry_q_loadA 0 1)), some (.inl (ry_x_init)), none, none, some (.inl (fun _ => ry_q_loadA 0 1)), some (.inl (fun _ => ry_h_push (ry_n 0) 1)), some (.inl (fun _ => ry_q_put (2, 0, 0, false, false) true)), none, none, some (.inl (fun _ => ry_q_loadA 0 1)), some (.inl (fun _ => ry_h_push (ry_n 12) 2)), none, some (.inl (fun _ => ry_q_newa 4 40 0)), none, some (.inl (fun _ => ry_q_put (2, 1, 3, true, false) true))]
noncomputable def ryE3_1 : List (Option ry_Ent) := [none, some (.inl (fun _ => ry_q_loadA 0 1)), some (.inl (fun _ => ry_h_push (ry_n 12) 2)), none, some (.inl (fun _ => ry_q_newa 4 40 0)), none, some (.inl (fun _ => ry_q_put (2, 2, 3, true, false) true)), none, none, some (.inl (fun _ => ry_q_loadA 0 1)), some (.inl (fun _ => ry_h_push (ry_n 12) 2)), none, some (.inl (fun _ => ry_q_newa 4 40 0)), none, some (.inl (fun _ => ry_q_put (2, 3, 3, true, false) true))]
noncomputable def ryE3_2 : List (Option ry_Ent) := [none, some (.inl (fun _ => ry_q_loadA 0 1)), some (.inl (fun _ => ry_h_push (ry_n 4) 1)), some (.inl (fun _ => ry_q_newa 4 40 0)), none, some (.inl (fun _ => ry_q_put (2, 4, 3, true, false) true)), none, none, some (.inr (.inl (ry_q_retv 4 40)))]
noncomputable def ryE3 : List (List (Option ry_Ent)) := [ryE3_0, ryE3_1, ryE3_2]
noncomputable def ryE4_0 : List (Option ry_Ent) := [some (.inl (fun _ => ry_q_loadA 0 1)), some (.inl (ry_x_init)), none, none, some (.inl (fun _ => ry_q_loadA 0 1)), some (.inl (fun _ => ry_h_push (ry_n 0) 1)), some (.inl (fun _ => ry_q_put (10, 0, 0, false, false) true)), none, none, some (.inl (fun _ => ry_q_loadA 0 1)), some (.inl (fun _ => ry_h_push (ry_n 6) 2)), none, some (.inl (fun _ => ry_q_newa 135 7185 0)), none, some (.inl (fun _ => ry_q_put (10, 1, 3, true, false) true))]
noncomputable def ryE4_1 : List (Option ry_Ent) := [none, some (.inl (fun _ => ry_q_loadA 0 1)), some (.inl (fun _ => ry_h_push (ry_n 6) 2)), none, some (.inl (fun _ => ry_q_newa 135 7185 0)), none, some (.inl (fun _ => ry_q_put (10, 2, 3, true, false) true)), none, none, some (.inl (fun _ => ry_q_loadA 0 1)), some (.inl (fun _ => ry_h_push (ry_n 6) 2)), none, some (.inl (fun _ => ry_q_newq 9 135 7185)), none, none, some (.inl (fun _ => ry_q_put (10, 3, 3, true, false) true))]
noncomputable def ryE4_2 : List (Option ry_Ent) := [none, none, some (.inl (fun _ => ry_q_loadA 0 1)), some (.inl (fun _ => ry_q_new (5, [0, 3, 3, 3]) 135 7185)), none, none, some (.inl (fun _ => ry_h_dup)), some (.inr (.inr (0, ryM0, ry_q_vcall ryM4 ryM0 0 5))), none, none, some (.inl (fun _ => ry_q_put (10, 4, 3, true, false) true)), none, none, some (.inl (fun _ => ry_q_loadA 0 1)), some (.inl (fun _ => ry_h_push (ry_n 0) 1)), some (.inl (fun _ => ry_q_put (10, 5, 0, false, false) true))]
noncomputable def ryE4_3 : List (Option ry_Ent) := [none, none, some (.inl (fun _ => ry_q_loadA 0 1)), some (.inl (fun _ => ry_h_push (ry_n 12) 2)), none, some (.inl (fun _ => ry_q_newa 135 7185 0)), none, some (.inl (fun _ => ry_q_put (10, 6, 3, true, false) true)), none, none, some (.inl (fun _ => ry_q_loadA 0 1)), some (.inl (fun _ => ry_h_push (ry_n 12) 2)), none, some (.inl (fun _ => ry_q_newa 135 7185 0)), none, some (.inl (fun _ => ry_q_put (10, 7, 3, true, false) true))]
noncomputable def ryE4_4 : List (Option ry_Ent) := [none, none, some (.inl (fun _ => ry_q_loadA 0 1)), some (.inl (fun _ => ry_h_push (ry_n 12) 2)), none, some (.inl (fun _ => ry_q_newa 135 7185 0)), none, some (.inl (fun _ => ry_q_put (10, 8, 3, true, false) true)), none, none, some (.inl (fun _ => ry_q_loadA 0 1)), some (.inl (fun _ => ry_h_push (ry_n 12) 2)), none, some (.inl (fun _ => ry_q_newq 9 135 7185))]
noncomputable def ryE4_5 : List (Option ry_Ent) := [some (.inl (fun _ => ry_q_put (10, 9, 3, true, false) true)), none, none, some (.inl (fun _ => ry_q_loadA 0 1)), some (.inl (fun _ => ry_h_push (ry_n 0) 1)), some (.inl (fun _ => ry_q_put (10, 10, 0, false, false) true)), none, none, some (.inl (fun _ => ry_q_loadA 0 1)), some (.inl (fun _ => ry_h_push (ry_n 12) 2)), none, some (.inl (fun _ => ry_q_newa 135 7185 0)), none, some (.inl (fun _ => ry_q_put (10, 11, 3, true, false) true))]
noncomputable def ryE4_6 : List (Option ry_Ent) := [some (.inl (fun _ => ry_q_loadA 0 1)), some (.inl (fun _ => ry_q_new (2, [0, 3, 3, 3, 3]) 135 7185)), none, none, some (.inl (fun _ => ry_h_dup)), some (.inr (.inr (3, ryM3, ry_q_vcall ryM4 ryM3 0 2))), none, none, some (.inl (fun _ => ry_q_put (10, 12, 3, true, false) true)), none, none, some (.inl (fun _ => ry_q_loadA 0 1)), some (.inl (fun _ => ry_h_push (ry_n 3) 1)), some (.inl (fun _ => ry_q_newa 135 7185 0)), none, some (.inl (fun _ => ry_h_dup))]
noncomputable def ryE4_7 : List (Option ry_Ent) := [some (.inl (fun _ => ry_h_push (ry_n 0) 1)), some (.inl (fun _ => ry_h_push (ry_n 0) 1)), some (.inl (fun _ => ry_q_ast (ry_isTc 0) (fun I _ _ v => ry_fit I 0 v))), some (.inl (fun _ => ry_h_dup)), some (.inl (fun _ => ry_h_push (ry_n 1) 1)), some (.inl (fun _ => ry_h_push (ry_n 0) 1)), some (.inl (fun _ => ry_q_ast (ry_isTc 0) (fun I _ _ v => ry_fit I 0 v))), some (.inl (fun _ => ry_h_dup)), some (.inl (fun _ => ry_h_push (ry_n 2) 1)), some (.inl (fun _ => ry_h_push (ry_n 10) 2)), none, some (.inl (fun _ => ry_q_ast (ry_isTc 0) (fun I _ _ v => ry_fit I 0 v))), some (.inl (fun _ => ry_q_put (10, 13, 3, true, false) true)), none, none, some (.inl (fun _ => ry_q_loadA 0 1))]
noncomputable def ryE4_8 : List (Option ry_Ent) := [some (.inl (fun _ => ry_h_push (ry_n 0) 1)), some (.inl (fun _ => ry_q_put (10, 14, 0, false, false) true)), none, none, some (.inl (fun _ => ry_q_loadA 0 1)), some (.inl (fun _ => ry_h_push (ry_n (-1)) 1)), some (.inl (fun _ => ry_q_put (10, 15, 0, false, false) true)), none, none, some (.inl (fun _ => ry_q_loadA 0 1)), some (.inl (fun _ => ry_h_push (ry_n 6) 2)), none, some (.inl (fun _ => ry_q_newq 6 135 7185)), none, none, some (.inl (fun _ => ry_q_put (10, 16, 3, true, false) true))]
noncomputable def ryE4_9 : List (Option ry_Ent) := [none, none, some (.inl (fun _ => ry_q_loadA 0 1)), some (.inl (fun _ => ry_h_push (ry_n 3) 1)), some (.inl (fun _ => ry_q_newa 135 7185 0)), none, some (.inl (fun _ => ry_q_put (10, 17, 3, true, false) true)), none, none, some (.inl (fun _ => ry_q_loadA 0 1)), some (.inl (fun _ => ry_h_push (ry_n 8) 2)), none, some (.inl (fun _ => ry_q_newa 135 7185 0)), none, some (.inl (fun _ => ry_q_put (10, 18, 3, true, false) true))]
noncomputable def ryE4_10 : List (Option ry_Ent) := [none, some (.inl (fun _ => ry_h_push (ry_n 0) 1)), some (.inl (fun _ => ry_h_istore 2 1 1)), some (.inl (fun _ => ry_q_load 0 1 1)), some (.inl (fun _ => ry_h_push (ry_n 6) 2)), none, some (.inl (fun _ => ry_q_icmp .ge 188 169)), none, none, some (.inl (fun _ => ry_q_loadA 0 1)), some (.inl (fun _ => ry_q_get (10, 3, 3, true, false))), none, none, some (.inl (fun _ => ry_q_load 0 1 1)), some (.inl (fun _ => ry_q_new (9, [3, 3]) 135 7185))]
noncomputable def ryE4_11 : List (Option ry_Ent) := [none, some (.inl (fun _ => ry_h_dup)), some (.inr (.inr (1, ryM1, ry_q_vcall ryM4 ryM1 0 9))), none, none, some (.inl (fun _ => ry_q_ast ry_isRef ry_fitA)), some (.inl (fun _ => ry_h_iinc 2 1 1)), none, none, some (.inl (fun _ => ry_q_goto 163)), none, none, some (.inl (fun _ => ry_h_push (ry_n 0) 1)), some (.inl (fun _ => ry_h_istore 2 1 1)), some (.inl (fun _ => ry_q_load 0 1 1)), some (.inl (fun _ => ry_h_push (ry_n 12) 2))]
noncomputable def ryE4_12 : List (Option ry_Ent) := [none, some (.inl (fun _ => ry_q_icmp .ge 215 196)), none, none, some (.inl (fun _ => ry_q_loadA 0 1)), some (.inl (fun _ => ry_q_get (10, 9, 3, true, false))), none, none, some (.inl (fun _ => ry_q_load 0 1 1)), some (.inl (fun _ => ry_q_new (9, [3, 3]) 135 7185)), none, none, some (.inl (fun _ => ry_h_dup)), some (.inr (.inr (1, ryM1, ry_q_vcall ryM4 ryM1 0 9)))]
noncomputable def ryE4_13 : List (Option ry_Ent) := [some (.inl (fun _ => ry_q_ast ry_isRef ry_fitA)), some (.inl (fun _ => ry_h_iinc 2 1 1)), none, none, some (.inl (fun _ => ry_q_goto 190)), none, none, some (.inl (fun _ => ry_h_push (ry_n 0) 1)), some (.inl (fun _ => ry_h_istore 2 1 1)), some (.inl (fun _ => ry_q_load 0 1 1)), some (.inl (fun _ => ry_h_push (ry_n 6) 2)), none, some (.inl (fun _ => ry_q_icmp .ge 242 223)), none, none, some (.inl (fun _ => ry_q_loadA 0 1))]
noncomputable def ryE4_14 : List (Option ry_Ent) := [some (.inl (fun _ => ry_q_get (10, 16, 3, true, false))), none, none, some (.inl (fun _ => ry_q_load 0 1 1)), some (.inl (fun _ => ry_q_new (6, [0, 3, 3, 3, 0, 3, 3, 3, 3, 3, 3]) 135 7185)), none, none, some (.inl (fun _ => ry_h_dup)), some (.inr (.inr (2, ryM2, ry_q_vcall ryM4 ryM2 0 6))), none, none, some (.inl (fun _ => ry_q_ast ry_isRef ry_fitA)), some (.inl (fun _ => ry_h_iinc 2 1 1)), none, none, some (.inl (fun _ => ry_q_goto 217))]
noncomputable def ryE4_15 : List (Option ry_Ent) := [none, none, some (.inr (.inl (ry_q_retv 135 7185)))]
noncomputable def ryE4 : List (List (Option ry_Ent)) := [ryE4_0, ryE4_1, ryE4_2, ryE4_3, ryE4_4, ryE4_5, ryE4_6, ryE4_7, ryE4_8, ryE4_9, ryE4_10, ryE4_11, ryE4_12, ryE4_13, ryE4_14, ryE4_15]
noncomputable def ryE5_0 : List (Option ry_Ent) := [some (.inl (fun _ => ry_q_loadA 0 1)), some (.inl (ry_x_init)), none, none, some (.inl (fun _ => ry_q_loadA 0 1)), some (.inl (fun _ => ry_h_push (ry_n 0) 1)), some (.inl (fun _ => ry_q_newa 14 1756 0)), none, some (.inl (fun _ => ry_q_put (7, 0, 3, false, false) true)), none, none, some (.inl (fun _ => ry_q_loadA 0 1)), some (.inl (fun _ => ry_h_push (ry_n 0) 1)), some (.inl (fun _ => ry_q_put (7, 1, 0, false, false) true))]
noncomputable def ryE5_1 : List (Option ry_Ent) := [some (.inl (fun _ => ry_q_loadA 0 1)), some (.inl (fun _ => ry_h_push (ry_n 0) 1)), some (.inl (fun _ => ry_q_put (7, 2, 0, false, false) true)), none, none, some (.inl (fun _ => ry_q_loadA 0 1)), some (.inl (fun _ => ry_h_push (ry_n 0) 1)), some (.inl (fun _ => ry_q_put (7, 3, 0, false, false) true)), none, none, some (.inl (fun _ => ry_q_loadA 0 1)), some (.inl (fun _ => ry_h_push (ry_n (-1)) 1)), some (.inl (fun _ => ry_q_put (7, 4, 0, false, false) true)), none, none, some (.inl (fun _ => ry_q_loadA 0 1))]
noncomputable def ryE5_2 : List (Option ry_Ent) := [some (.inl (fun _ => ry_h_push (ry_n 0) 1)), some (.inl (fun _ => ry_q_put (7, 5, 1, false, false) true)), none, none, some (.inl (fun _ => ry_q_loadA 0 1)), some (.inl (fun _ => ry_q_new (6, [0, 3, 3, 3, 0, 3, 3, 3, 3, 3, 3]) 14 1756)), none, none, some (.inl (fun _ => ry_h_dup)), some (.inr (.inr (2, ryM2, ry_q_vcall ryM5 ryM2 0 6))), none, none, some (.inl (fun _ => ry_q_put (7, 6, 3, false, false) true)), none, none, some (.inl (fun _ => ry_q_loadA 0 1))]
noncomputable def ryE5_3 : List (Option ry_Ent) := [some (.inl (fun _ => ry_h_push (ry_n 0) 1)), some (.inl (fun _ => ry_q_put (7, 7, 0, false, false) true)), none, none, some (.inl (fun _ => ry_q_loadA 0 1)), some (.inl (fun _ => ry_h_push (ry_n 0) 1)), some (.inl (fun _ => ry_q_put (7, 8, 0, false, false) true)), none, none, some (.inl (fun _ => ry_q_loadA 0 1)), some (.inl (fun _ => ry_h_push (ry_n 9) 2)), none, some (.inl (fun _ => ry_q_newa 14 1756 0)), none, some (.inl (fun _ => ry_q_put (7, 9, 3, true, false) true))]
noncomputable def ryE5_4 : List (Option ry_Ent) := [none, some (.inl (fun _ => ry_q_loadA 0 1)), some (.inl (fun _ => ry_h_push (ry_n 0) 1)), some (.inl (fun _ => ry_q_put (7, 10, 0, false, false) true)), none, none, some (.inl (fun _ => ry_q_loadA 0 1)), some (.inl (fun _ => ry_h_push (ry_n 400) 3)), none, none, some (.inl (fun _ => ry_q_newa 14 1756 0)), none, some (.inl (fun _ => ry_q_put (7, 11, 3, true, false) true)), none, none, some (.inl (fun _ => ry_q_loadA 0 1))]
noncomputable def ryE5_5 : List (Option ry_Ent) := [some (.inl (fun _ => ry_h_push (ry_n 400) 3)), none, none, some (.inl (fun _ => ry_q_newa 14 1756 0)), none, some (.inl (fun _ => ry_q_put (7, 12, 3, true, false) true)), none, none, some (.inr (.inl (ry_q_retv 14 1756)))]
noncomputable def ryE5 : List (List (Option ry_Ent)) := [ryE5_0, ryE5_1, ryE5_2, ryE5_3, ryE5_4, ryE5_5]
noncomputable def ryE6_0 : List (Option ry_Ent) := [some (.inl (fun _ => ry_q_loadA 0 1)), some (.inl (ry_x_init)), none, none, some (.inl (fun _ => ry_q_loadA 0 1)), some (.inl (fun _ => ry_h_push (ry_n 36) 2)), none, some (.inl (fun _ => ry_q_newa 4 144 0)), none, some (.inl (fun _ => ry_q_put (8, 0, 3, true, false) true)), none, none, some (.inl (fun _ => ry_q_loadA 0 1)), some (.inl (fun _ => ry_h_push (ry_n 36) 2)), none, some (.inl (fun _ => ry_q_newa 4 144 0))]
noncomputable def ryE6_1 : List (Option ry_Ent) := [none, some (.inl (fun _ => ry_q_put (8, 1, 3, true, false) true)), none, none, some (.inl (fun _ => ry_q_loadA 0 1)), some (.inl (fun _ => ry_h_push (ry_n 36) 2)), none, some (.inl (fun _ => ry_q_newa 4 144 0)), none, some (.inl (fun _ => ry_q_put (8, 2, 3, true, false) true)), none, none, some (.inl (fun _ => ry_q_loadA 0 1)), some (.inl (fun _ => ry_h_push (ry_n 36) 2)), none, some (.inl (fun _ => ry_q_newa 4 144 0))]
noncomputable def ryE6_2 : List (Option ry_Ent) := [none, some (.inl (fun _ => ry_q_put (8, 3, 3, true, false) true)), none, none, some (.inl (fun _ => ry_q_loadA 0 1)), some (.inl (fun _ => ry_h_push (.inr (1, (0, 0))) 1)), some (.inl (fun _ => ry_q_put (8, 4, 2, false, false) true)), none, none, some (.inl (fun _ => ry_q_loadA 0 1)), some (.inl (fun _ => ry_h_push (ry_n 0) 1)), some (.inl (fun _ => ry_q_put (8, 5, 0, false, false) true)), none, none, some (.inl (fun _ => ry_q_loadA 0 1)), some (.inl (fun _ => ry_h_push (ry_n (-1)) 1))]
noncomputable def ryE6_3 : List (Option ry_Ent) := [some (.inl (fun _ => ry_q_put (8, 6, 0, false, false) true)), none, none, some (.inr (.inl (ry_q_retv 4 144)))]
noncomputable def ryE6 : List (List (Option ry_Ent)) := [ryE6_0, ryE6_1, ryE6_2, ryE6_3]
noncomputable def ryE7_0 : List (Option ry_Ent) := [some (.inl (fun _ => ry_q_loadA 0 1)), some (.inl (ry_x_init)), none, none, some (.inl (fun _ => ry_q_loadA 0 1)), some (.inl (fun _ => ry_q_new (9, [3, 3]) 7 580)), none, none, some (.inl (fun _ => ry_h_dup)), some (.inr (.inr (1, ryM1, ry_q_vcall ryM7 ryM1 0 9))), none, none, some (.inl (fun _ => ry_q_put (3, 0, 3, true, false) true)), none, none, some (.inl (fun _ => ry_q_loadA 0 1))]
noncomputable def ryE7_1 : List (Option ry_Ent) := [some (.inl (fun _ => ry_q_new (9, [3, 3]) 7 580)), none, none, some (.inl (fun _ => ry_h_dup)), some (.inr (.inr (1, ryM1, ry_q_vcall ryM7 ryM1 0 9))), none, none, some (.inl (fun _ => ry_q_put (3, 1, 3, true, false) true)), none, none, some (.inl (fun _ => ry_q_loadA 0 1)), some (.inl (fun _ => ry_h_push (ry_n 0) 1)), some (.inl (fun _ => ry_q_put (3, 2, 1, false, false) true)), none, none, some (.inl (fun _ => ry_q_loadA 0 1))]
noncomputable def ryE7_2 : List (Option ry_Ent) := [some (.inl (fun _ => ry_h_push (ry_n 0) 1)), some (.inl (fun _ => ry_q_put (3, 3, 0, false, false) true)), none, none, some (.inl (fun _ => ry_q_loadA 0 1)), some (.inl (fun _ => ry_h_push (ry_n 0) 1)), some (.inl (fun _ => ry_q_put (3, 4, 0, false, false) true)), none, none, some (.inl (fun _ => ry_q_loadA 0 1)), some (.inl (fun _ => ry_h_push (ry_n 1) 1)), some (.inl (fun _ => ry_q_put (3, 5, 1, false, false) true)), none, none, some (.inl (fun _ => ry_q_loadA 0 1)), some (.inl (fun _ => ry_h_push (ry_n 0) 1))]
noncomputable def ryE7_3 : List (Option ry_Ent) := [some (.inl (fun _ => ry_q_put (3, 6, 0, false, false) true)), none, none, some (.inl (fun _ => ry_q_loadA 0 1)), some (.inl (fun _ => ry_h_push (ry_n 432) 3)), none, none, some (.inl (fun _ => ry_q_newa 7 580 0)), none, some (.inl (fun _ => ry_q_put (3, 7, 3, true, false) true)), none, none, some (.inl (fun _ => ry_q_loadA 0 1)), some (.inl (fun _ => ry_h_push (ry_n 0) 1)), some (.inl (fun _ => ry_q_put (3, 8, 0, false, false) true))]
noncomputable def ryE7_4 : List (Option ry_Ent) := [none, some (.inl (fun _ => ry_q_loadA 0 1)), some (.inl (fun _ => ry_h_push (ry_n (-1)) 1)), some (.inl (fun _ => ry_q_put (3, 9, 0, false, false) true)), none, none, some (.inl (fun _ => ry_q_loadA 0 1)), some (.inl (fun _ => ry_h_push (ry_n (-1)) 1)), some (.inl (fun _ => ry_q_put (3, 10, 0, false, false) true)), none, none, some (.inl (fun _ => ry_q_loadA 0 1)), some (.inl (fun _ => ry_h_push (ry_n (-1)) 1)), some (.inl (fun _ => ry_q_put (3, 11, 0, false, false) true))]
noncomputable def ryE7_5 : List (Option ry_Ent) := [some (.inl (fun _ => ry_q_loadA 0 1)), some (.inl (fun _ => ry_h_push (ry_n 0) 1)), some (.inl (fun _ => ry_q_put (3, 12, 0, false, false) true)), none, none, some (.inl (fun _ => ry_q_loadA 0 1)), some (.inl (fun _ => ry_h_push (ry_n (-1)) 1)), some (.inl (fun _ => ry_q_put (3, 13, 0, false, false) true)), none, none, some (.inl (fun _ => ry_q_loadA 0 1)), some (.inl (fun _ => ry_h_push (ry_n (-1)) 1)), some (.inl (fun _ => ry_q_put (3, 14, 0, false, false) true)), none, none, some (.inr (.inl (ry_q_retv 7 580)))]
noncomputable def ryE7 : List (List (Option ry_Ent)) := [ryE7_0, ryE7_1, ryE7_2, ryE7_3, ryE7_4, ryE7_5]
noncomputable def ryE8_0 : List (Option ry_Ent) := [some (.inl (fun _ => ry_q_loadA 0 1)), some (.inl (ry_x_init)), none, none, some (.inl (fun _ => ry_q_loadA 0 1)), some (.inl (fun _ => ry_h_push (ry_n 0) 1)), some (.inl (fun _ => ry_q_put (4, 0, 0, false, false) true)), none, none, some (.inl (fun _ => ry_q_loadA 0 1)), some (.inl (fun _ => ry_h_push (ry_n 12) 2)), none, some (.inl (fun _ => ry_q_newa 7 88 0)), none, some (.inl (fun _ => ry_q_put (4, 1, 3, true, false) true))]
noncomputable def ryE8_1 : List (Option ry_Ent) := [none, some (.inl (fun _ => ry_q_loadA 0 1)), some (.inl (fun _ => ry_h_push (ry_n 12) 2)), none, some (.inl (fun _ => ry_q_newa 7 88 0)), none, some (.inl (fun _ => ry_q_put (4, 2, 3, true, false) true)), none, none, some (.inl (fun _ => ry_q_loadA 0 1)), some (.inl (fun _ => ry_h_push (ry_n 12) 2)), none, some (.inl (fun _ => ry_q_newa 7 88 0)), none, some (.inl (fun _ => ry_q_put (4, 3, 3, true, false) true))]
noncomputable def ryE8_2 : List (Option ry_Ent) := [none, some (.inl (fun _ => ry_q_loadA 0 1)), some (.inl (fun _ => ry_h_push (ry_n 4) 1)), some (.inl (fun _ => ry_q_newa 7 88 0)), none, some (.inl (fun _ => ry_q_put (4, 4, 3, true, false) true)), none, none, some (.inl (fun _ => ry_q_loadA 0 1)), some (.inl (fun _ => ry_h_push (ry_n 0) 1)), some (.inl (fun _ => ry_q_put (4, 5, 0, false, false) true)), none, none, some (.inl (fun _ => ry_q_loadA 0 1)), some (.inl (fun _ => ry_h_push (ry_n (-1)) 1)), some (.inl (fun _ => ry_q_put (4, 6, 0, false, false) true))]
noncomputable def ryE8_3 : List (Option ry_Ent) := [none, none, some (.inl (fun _ => ry_q_loadA 0 1)), some (.inl (fun _ => ry_h_push (ry_n (-1)) 1)), some (.inl (fun _ => ry_q_put (4, 7, 0, false, false) true)), none, none, some (.inl (fun _ => ry_q_loadA 0 1)), some (.inl (fun _ => ry_h_push (ry_n 0) 1)), some (.inl (fun _ => ry_q_put (4, 8, 1, false, false) true)), none, none, some (.inl (fun _ => ry_q_loadA 0 1)), some (.inl (fun _ => ry_h_push (ry_n 0) 1)), some (.inl (fun _ => ry_q_put (4, 9, 0, false, false) true))]
noncomputable def ryE8_4 : List (Option ry_Ent) := [none, some (.inl (fun _ => ry_q_loadA 0 1)), some (.inl (fun _ => ry_h_push (ry_n 0) 1)), some (.inl (fun _ => ry_q_put (4, 10, 0, false, false) true)), none, none, some (.inl (fun _ => ry_q_loadA 0 1)), some (.inl (fun _ => ry_h_push (ry_n 12) 2)), none, some (.inl (fun _ => ry_q_newa 7 88 0)), none, some (.inl (fun _ => ry_q_put (4, 11, 3, true, false) true)), none, none, some (.inl (fun _ => ry_q_loadA 0 1)), some (.inl (fun _ => ry_h_push (ry_n 18) 2))]
noncomputable def ryE8_5 : List (Option ry_Ent) := [none, some (.inl (fun _ => ry_q_newa 7 88 0)), none, some (.inl (fun _ => ry_q_put (4, 12, 3, true, false) true)), none, none, some (.inl (fun _ => ry_q_loadA 0 1)), some (.inl (fun _ => ry_h_push (ry_n 18) 2)), none, some (.inl (fun _ => ry_q_newa 7 88 0)), none, some (.inl (fun _ => ry_q_put (4, 13, 3, true, false) true)), none, none, some (.inr (.inl (ry_q_retv 7 88)))]
noncomputable def ryE8 : List (List (Option ry_Ent)) := [ryE8_0, ryE8_1, ryE8_2, ryE8_3, ryE8_4, ryE8_5]
noncomputable def ryE9_0 : List (Option ry_Ent) := [some (.inl (fun _ => ry_q_loadA 0 1)), some (.inl (ry_x_init)), none, none, some (.inl (fun _ => ry_q_loadA 0 1)), some (.inl (fun _ => ry_q_new (5, [0, 3, 3, 3]) 8 116)), none, none, some (.inl (fun _ => ry_h_dup)), some (.inr (.inr (0, ryM0, ry_q_vcall ryM9 ryM0 0 5))), none, none, some (.inl (fun _ => ry_q_put (1, 0, 3, false, false) true)), none, none, some (.inl (fun _ => ry_q_loadA 0 1))]
noncomputable def ryE9_1 : List (Option ry_Ent) := [some (.inl (fun _ => ry_h_push (ry_n 64) 2)), none, some (.inl (fun _ => ry_q_newa 8 116 1)), none, some (.inl (fun _ => ry_q_put (1, 1, 3, true, false) true)), none, none, some (.inl (fun _ => ry_q_loadA 0 1)), some (.inl (fun _ => ry_h_push (ry_n 8) 2)), none, some (.inl (fun _ => ry_q_newa 8 116 0)), none, some (.inl (fun _ => ry_q_put (1, 2, 3, true, false) true)), none, none, some (.inl (fun _ => ry_q_loadA 0 1))]
noncomputable def ryE9_2 : List (Option ry_Ent) := [some (.inl (fun _ => ry_h_push (ry_n 8) 2)), none, some (.inl (fun _ => ry_q_newa 8 116 0)), none, some (.inl (fun _ => ry_q_put (1, 3, 3, true, false) true)), none, none, some (.inl (fun _ => ry_q_loadA 0 1)), some (.inl (fun _ => ry_h_push (ry_n 8) 2)), none, some (.inl (fun _ => ry_q_newa 8 116 0)), none, some (.inl (fun _ => ry_q_put (1, 4, 3, true, false) true)), none, none, some (.inl (fun _ => ry_q_loadA 0 1))]
noncomputable def ryE9_3 : List (Option ry_Ent) := [some (.inl (fun _ => ry_h_push (ry_n 0) 1)), some (.inl (fun _ => ry_q_put (1, 5, 0, false, false) true)), none, none, some (.inl (fun _ => ry_q_loadA 0 1)), some (.inl (fun _ => ry_h_push (ry_n 0) 1)), some (.inl (fun _ => ry_q_put (1, 6, 0, false, false) true)), none, none, some (.inl (fun _ => ry_q_loadA 0 1)), some (.inl (fun _ => ry_h_push (ry_n (-1)) 1)), some (.inl (fun _ => ry_q_put (1, 7, 0, false, false) true)), none, none, some (.inl (fun _ => ry_q_loadA 0 1)), some (.inl (fun _ => ry_h_push (ry_n 0) 1))]
noncomputable def ryE9_4 : List (Option ry_Ent) := [some (.inl (fun _ => ry_q_put (1, 8, 0, false, false) true)), none, none, some (.inr (.inl (ry_q_retv 8 116)))]
noncomputable def ryE9 : List (List (Option ry_Ent)) := [ryE9_0, ryE9_1, ryE9_2, ryE9_3, ryE9_4]
noncomputable def ryE10_0 : List (Option ry_Ent) := [some (.inl (fun _ => ry_q_loadA 0 1)), some (.inl (ry_x_init)), none, none, some (.inl (fun _ => ry_q_loadA 0 1)), some (.inl (fun _ => ry_h_push (ry_n 0) 1)), some (.inl (fun _ => ry_q_put (0, 0, 0, false, false) true)), none, none, some (.inl (fun _ => ry_q_loadA 0 1)), some (.inl (fun _ => ry_h_push (ry_n 0) 1)), some (.inl (fun _ => ry_q_put (0, 1, 0, false, false) true)), none, none, some (.inl (fun _ => ry_q_loadA 0 1)), some (.inl (fun _ => ry_h_push (ry_n 8) 2))]
noncomputable def ryE10_1 : List (Option ry_Ent) := [none, some (.inl (fun _ => ry_q_newa 6 540 0)), none, some (.inl (fun _ => ry_q_put (0, 2, 3, true, false) true)), none, none, some (.inl (fun _ => ry_q_loadA 0 1)), some (.inl (fun _ => ry_h_push (ry_n 6) 2)), none, some (.inl (fun _ => ry_q_newa 6 540 0)), none, some (.inl (fun _ => ry_q_put (0, 3, 3, true, false) true)), none, none, some (.inl (fun _ => ry_q_loadA 0 1)), some (.inl (fun _ => ry_h_push (ry_n 64) 2))]
noncomputable def ryE10_2 : List (Option ry_Ent) := [none, some (.inl (fun _ => ry_q_newa 6 540 1)), none, some (.inl (fun _ => ry_q_put (0, 4, 3, true, false) true)), none, none, some (.inl (fun _ => ry_q_loadA 0 1)), some (.inl (fun _ => ry_h_push (ry_n 448) 3)), none, none, some (.inl (fun _ => ry_q_newa 6 540 0)), none, some (.inl (fun _ => ry_q_put (0, 5, 3, true, false) true)), none, none, some (.inl (fun _ => ry_q_loadA 0 1))]
noncomputable def ryE10_3 : List (Option ry_Ent) := [some (.inl (fun _ => ry_h_push (ry_n 8) 2)), none, some (.inl (fun _ => ry_q_newa 6 540 0)), none, some (.inl (fun _ => ry_q_put (0, 6, 3, true, false) true)), none, none, some (.inl (fun _ => ry_q_loadA 0 1)), some (.inl (fun _ => ry_h_push (ry_n 6) 2)), none, some (.inl (fun _ => ry_q_newa 6 540 0)), none, some (.inl (fun _ => ry_q_put (0, 7, 3, true, false) true)), none, none, some (.inl (fun _ => ry_q_loadA 0 1))]
noncomputable def ryE10_4 : List (Option ry_Ent) := [some (.inl (fun _ => ry_h_push (ry_n (-1)) 1)), some (.inl (fun _ => ry_q_put (0, 8, 0, false, false) true)), none, none, some (.inl (fun _ => ry_q_loadA 0 1)), some (.inl (fun _ => ry_h_push (ry_n 0) 1)), some (.inl (fun _ => ry_q_put (0, 9, 0, false, false) true)), none, none, some (.inr (.inl (ry_q_retv 6 540)))]
noncomputable def ryE10 : List (List (Option ry_Ent)) := [ryE10_0, ryE10_1, ryE10_2, ryE10_3, ryE10_4]
noncomputable def ryE11_0 : List (Option ry_Ent) := [some (.inl (fun _ => ry_q_loadA 0 1)), some (.inl (ry_x_init)), none, none, some (.inl (fun _ => ry_q_loadA 0 1)), some (.inl (fun _ => ry_h_push (ry_n 7) 2)), none, some (.inl (fun _ => ry_q_newa 41 22483 0)), none, some (.inl (fun _ => ry_q_put (12, 2, 3, true, false) true)), none, none, some (.inl (fun _ => ry_q_loadA 0 1)), some (.inl (fun _ => ry_h_push (ry_n 6180) 3))]
noncomputable def ryE11_1 : List (Option ry_Ent) := [some (.inl (fun _ => ry_q_newa 41 22483 0)), none, some (.inl (fun _ => ry_q_put (12, 3, 3, true, false) true)), none, none, some (.inl (fun _ => ry_q_loadA 0 1)), some (.inl (fun _ => ry_h_push (ry_n 12360) 3)), none, none, some (.inl (fun _ => ry_q_newa 41 22483 0)), none, some (.inl (fun _ => ry_q_put (12, 4, 3, true, false) true)), none, none, some (.inl (fun _ => ry_q_loadA 0 1)), some (.inl (fun _ => ry_h_push (ry_n 2) 1))]
noncomputable def ryE11_2 : List (Option ry_Ent) := [some (.inl (fun _ => ry_q_newa 41 22483 1)), none, some (.inl (fun _ => ry_q_put (12, 5, 3, true, false) true)), none, none, some (.inl (fun _ => ry_q_loadA 0 1)), some (.inl (fun _ => ry_h_push (ry_n 400) 3)), none, none, some (.inl (fun _ => ry_q_newa 41 22483 0)), none, some (.inl (fun _ => ry_q_put (12, 7, 3, true, false) true)), none, none, some (.inl (fun _ => ry_q_loadA 0 1)), some (.inl (fun _ => ry_h_push (ry_n (-1)) 1))]
noncomputable def ryE11_3 : List (Option ry_Ent) := [some (.inl (fun _ => ry_q_put (12, 13, 0, false, false) true)), none, none, some (.inl (fun _ => ry_q_loadA 0 1)), some (.inl (fun _ => ry_h_push (ry_n 96) 2)), none, some (.inl (fun _ => ry_q_newa 41 22483 0)), none, some (.inl (fun _ => ry_q_put (12, 17, 3, true, false) true)), none, none, some (.inl (fun _ => ry_q_loadA 0 1)), some (.inl (fun _ => ry_h_push (ry_n 400) 3)), none, none, some (.inl (fun _ => ry_q_newa 41 22483 0))]
noncomputable def ryE11_4 : List (Option ry_Ent) := [none, some (.inl (fun _ => ry_q_put (12, 19, 3, true, false) true)), none, none, some (.inl (fun _ => ry_q_loadA 0 1)), some (.inl (fun _ => ry_h_push (ry_n 400) 3)), none, none, some (.inl (fun _ => ry_q_newa 41 22483 0)), none, some (.inl (fun _ => ry_q_put (12, 20, 3, true, false) true)), none, none, some (.inl (fun _ => ry_q_loadA 0 1)), some (.inl (fun _ => ry_h_push (ry_n 400) 3))]
noncomputable def ryE11_5 : List (Option ry_Ent) := [none, some (.inl (fun _ => ry_q_newa 41 22483 0)), none, some (.inl (fun _ => ry_q_put (12, 22, 3, true, false) true)), none, none, some (.inl (fun _ => ry_q_loadA 0 1)), some (.inl (fun _ => ry_h_push (ry_n 400) 3)), none, none, some (.inl (fun _ => ry_q_newa 41 22483 0)), none, some (.inl (fun _ => ry_q_put (12, 23, 3, true, false) true)), none, none, some (.inl (fun _ => ry_q_loadA 0 1))]
noncomputable def ryE11_6 : List (Option ry_Ent) := [some (.inl (fun _ => ry_h_push (ry_n 8) 2)), none, some (.inl (fun _ => ry_q_newa 41 22483 2)), none, some (.inl (fun _ => ry_h_dup)), some (.inl (fun _ => ry_h_push (ry_n 0) 1)), some (.inl (fun _ => ry_h_push (.inr (1, (0, 542723566))) 3)), none, none, some (.inl (fun _ => ry_q_ast (ry_isTc 2) (fun I _ _ v => ry_fit I 2 v))), some (.inl (fun _ => ry_h_dup)), some (.inl (fun _ => ry_h_push (ry_n 1) 1)), some (.inl (fun _ => ry_h_push (.inr (1, (0, 441892441))) 3)), none, none, some (.inl (fun _ => ry_q_ast (ry_isTc 2) (fun I _ _ v => ry_fit I 2 v)))]
noncomputable def ryE11_7 : List (Option ry_Ent) := [some (.inl (fun _ => ry_h_dup)), some (.inl (fun _ => ry_h_push (ry_n 2) 1)), some (.inl (fun _ => ry_h_push (.inr (1, (0, 81486))) 3)), none, none, some (.inl (fun _ => ry_q_ast (ry_isTc 2) (fun I _ _ v => ry_fit I 2 v))), some (.inl (fun _ => ry_h_dup)), some (.inl (fun _ => ry_h_push (ry_n 3) 1)), some (.inl (fun _ => ry_h_push (.inr (1, (0, 136228))) 3)), none, none, some (.inl (fun _ => ry_q_ast (ry_isTc 2) (fun I _ _ v => ry_fit I 2 v))), some (.inl (fun _ => ry_h_dup)), some (.inl (fun _ => ry_h_push (ry_n 4) 1)), some (.inl (fun _ => ry_h_push (.inr (1, (0, 525908))) 3))]
noncomputable def ryE11_8 : List (Option ry_Ent) := [none, some (.inl (fun _ => ry_q_ast (ry_isTc 2) (fun I _ _ v => ry_fit I 2 v))), some (.inl (fun _ => ry_h_dup)), some (.inl (fun _ => ry_h_push (ry_n 5) 1)), some (.inl (fun _ => ry_h_push (.inr (1, (0, 21643763890))) 3)), none, none, some (.inl (fun _ => ry_q_ast (ry_isTc 2) (fun I _ _ v => ry_fit I 2 v))), some (.inl (fun _ => ry_h_dup)), some (.inl (fun _ => ry_h_push (ry_n 6) 2)), none, some (.inl (fun _ => ry_h_push (.inr (1, (0, 824370))) 3)), none, none, some (.inl (fun _ => ry_q_ast (ry_isTc 2) (fun I _ _ v => ry_fit I 2 v))), some (.inl (fun _ => ry_h_dup))]
noncomputable def ryE11_9 : List (Option ry_Ent) := [some (.inl (fun _ => ry_h_push (ry_n 7) 2)), none, some (.inl (fun _ => ry_h_push (.inr (1, (0, 441828))) 3)), none, none, some (.inl (fun _ => ry_q_ast (ry_isTc 2) (fun I _ _ v => ry_fit I 2 v))), some (.inl (fun _ => ry_q_put (12, 26, 3, true, false) true)), none, none, some (.inl (fun _ => ry_q_loadA 0 1)), some (.inl (fun _ => ry_h_push (ry_n 6) 2)), none, some (.inl (fun _ => ry_q_newa 41 22483 2)), none, some (.inl (fun _ => ry_h_dup)), some (.inl (fun _ => ry_h_push (ry_n 0) 1))]
noncomputable def ryE11_10 : List (Option ry_Ent) := [some (.inl (fun _ => ry_h_push (.inr (1, (0, 20579973))) 3)), none, none, some (.inl (fun _ => ry_q_ast (ry_isTc 2) (fun I _ _ v => ry_fit I 2 v))), some (.inl (fun _ => ry_h_dup)), some (.inl (fun _ => ry_h_push (ry_n 1) 1)), some (.inl (fun _ => ry_h_push (.inr (1, (0, 3749))) 3)), none, none, some (.inl (fun _ => ry_q_ast (ry_isTc 2) (fun I _ _ v => ry_fit I 2 v))), some (.inl (fun _ => ry_h_dup)), some (.inl (fun _ => ry_h_push (ry_n 2) 1)), some (.inl (fun _ => ry_h_push (.inr (1, (0, 769604))) 3)), none, none, some (.inl (fun _ => ry_q_ast (ry_isTc 2) (fun I _ _ v => ry_fit I 2 v)))]
noncomputable def ryE11_11 : List (Option ry_Ent) := [some (.inl (fun _ => ry_h_dup)), some (.inl (fun _ => ry_h_push (ry_n 3) 1)), some (.inl (fun _ => ry_h_push (.inr (1, (0, 464660))) 3)), none, none, some (.inl (fun _ => ry_q_ast (ry_isTc 2) (fun I _ _ v => ry_fit I 2 v))), some (.inl (fun _ => ry_h_dup)), some (.inl (fun _ => ry_h_push (ry_n 4) 1)), some (.inl (fun _ => ry_h_push (.inr (1, (0, 525908))) 3)), none, none, some (.inl (fun _ => ry_q_ast (ry_isTc 2) (fun I _ _ v => ry_fit I 2 v))), some (.inl (fun _ => ry_h_dup)), some (.inl (fun _ => ry_h_push (ry_n 5) 1)), some (.inl (fun _ => ry_h_push (.inr (1, (0, 441828))) 3))]
noncomputable def ryE11_12 : List (Option ry_Ent) := [none, some (.inl (fun _ => ry_q_ast (ry_isTc 2) (fun I _ _ v => ry_fit I 2 v))), some (.inl (fun _ => ry_q_put (12, 27, 3, true, false) true)), none, none, some (.inl (fun _ => ry_q_loadA 0 1)), some (.inl (fun _ => ry_h_push (ry_n 13) 2)), none, some (.inl (fun _ => ry_q_newa 41 22483 2)), none, some (.inl (fun _ => ry_q_put (12, 29, 3, true, false) true)), none, none, some (.inl (fun _ => ry_q_loadA 0 1)), some (.inl (fun _ => ry_h_push (ry_n 13) 2))]
noncomputable def ryE11_13 : List (Option ry_Ent) := [some (.inl (fun _ => ry_q_newa 41 22483 2)), none, some (.inl (fun _ => ry_q_put (12, 30, 3, true, false) true)), none, none, some (.inl (fun _ => ry_q_loadA 0 1)), some (.inl (fun _ => ry_h_push (ry_n 400) 3)), none, none, some (.inl (fun _ => ry_q_newa 41 22483 2)), none, some (.inl (fun _ => ry_q_put (12, 31, 3, true, false) true)), none, none, some (.inl (fun _ => ry_q_loadA 0 1)), some (.inl (fun _ => ry_h_push (ry_n 120) 2))]
noncomputable def ryE11_14 : List (Option ry_Ent) := [none, some (.inl (fun _ => ry_q_newa 41 22483 0)), none, some (.inl (fun _ => ry_q_put (12, 35, 3, true, false) true)), none, none, some (.inl (fun _ => ry_q_loadA 0 1)), some (.inl (fun _ => ry_h_push (ry_n 12) 2)), none, some (.inl (fun _ => ry_q_newa 41 22483 0)), none, some (.inl (fun _ => ry_q_put (12, 36, 3, true, false) true)), none, none, some (.inl (fun _ => ry_q_loadA 0 1)), some (.inl (fun _ => ry_h_push (ry_n 36) 2))]
noncomputable def ryE11_15 : List (Option ry_Ent) := [none, some (.inl (fun _ => ry_q_newa 41 22483 0)), none, some (.inl (fun _ => ry_q_put (12, 38, 3, true, false) true)), none, none, some (.inl (fun _ => ry_q_loadA 0 1)), some (.inl (fun _ => ry_h_push (ry_n 36) 2)), none, some (.inl (fun _ => ry_q_newa 41 22483 0)), none, some (.inl (fun _ => ry_q_put (12, 39, 3, true, false) true)), none, none, some (.inl (fun _ => ry_q_loadA 0 1)), some (.inl (fun _ => ry_h_push (ry_n 36) 2))]
noncomputable def ryE11_16 : List (Option ry_Ent) := [none, some (.inl (fun _ => ry_q_newa 41 22483 0)), none, some (.inl (fun _ => ry_q_put (12, 40, 3, true, false) true)), none, none, some (.inl (fun _ => ry_q_loadA 0 1)), some (.inl (fun _ => ry_h_push (ry_n 40) 2)), none, some (.inl (fun _ => ry_q_newa 41 22483 0)), none, some (.inl (fun _ => ry_q_put (12, 41, 3, true, false) true)), none, none, some (.inl (fun _ => ry_q_loadA 0 1)), some (.inl (fun _ => ry_h_push (ry_n 432) 3))]
noncomputable def ryE11_17 : List (Option ry_Ent) := [none, none, some (.inl (fun _ => ry_q_newa 41 22483 0)), none, some (.inl (fun _ => ry_q_put (12, 43, 3, true, false) true)), none, none, some (.inl (fun _ => ry_q_loadA 0 1)), some (.inl (fun _ => ry_h_push (ry_n 434) 3)), none, none, some (.inl (fun _ => ry_q_newa 41 22483 0)), none, some (.inl (fun _ => ry_q_put (12, 44, 3, true, false) true))]
noncomputable def ryE11_18 : List (Option ry_Ent) := [some (.inl (fun _ => ry_q_loadA 0 1)), some (.inl (fun _ => ry_h_push (ry_n 10) 2)), none, some (.inl (fun _ => ry_q_newa 41 22483 0)), none, some (.inl (fun _ => ry_q_put (12, 50, 3, true, false) true)), none, none, some (.inl (fun _ => ry_q_loadA 0 1)), some (.inl (fun _ => ry_h_push (ry_n 8) 2)), none, some (.inl (fun _ => ry_q_newa 41 22483 0)), none, some (.inl (fun _ => ry_q_put (12, 51, 3, true, false) true))]
noncomputable def ryE11_19 : List (Option ry_Ent) := [some (.inl (fun _ => ry_q_loadA 0 1)), some (.inl (fun _ => ry_h_push (ry_n 8) 2)), none, some (.inl (fun _ => ry_q_newa 41 22483 0)), none, some (.inl (fun _ => ry_q_put (12, 52, 3, true, false) true)), none, none, some (.inl (fun _ => ry_q_loadA 0 1)), some (.inl (fun _ => ry_h_push (ry_n 8) 2)), none, some (.inl (fun _ => ry_q_newa 41 22483 0)), none, some (.inl (fun _ => ry_q_put (12, 53, 3, true, false) true))]
noncomputable def ryE11_20 : List (Option ry_Ent) := [some (.inl (fun _ => ry_q_loadA 0 1)), some (.inl (fun _ => ry_h_push (ry_n 6) 2)), none, some (.inl (fun _ => ry_q_newa 41 22483 0)), none, some (.inl (fun _ => ry_q_put (12, 55, 3, true, false) true)), none, none, some (.inl (fun _ => ry_q_loadA 0 1)), some (.inl (fun _ => ry_h_push (ry_n 6) 2)), none, some (.inl (fun _ => ry_q_newa 41 22483 0)), none, some (.inl (fun _ => ry_q_put (12, 56, 3, true, false) true))]
noncomputable def ryE11_21 : List (Option ry_Ent) := [some (.inl (fun _ => ry_q_loadA 0 1)), some (.inl (fun _ => ry_h_push (ry_n 48) 2)), none, some (.inl (fun _ => ry_q_newa 41 22483 1)), none, some (.inl (fun _ => ry_q_put (12, 57, 3, true, false) true)), none, none, some (.inl (fun _ => ry_q_loadA 0 1)), some (.inl (fun _ => ry_h_push (ry_n 4) 1)), some (.inl (fun _ => ry_q_newa 41 22483 0)), none, some (.inl (fun _ => ry_q_put (12, 60, 3, true, false) true)), none, none, some (.inl (fun _ => ry_q_loadA 0 1))]
noncomputable def ryE11_22 : List (Option ry_Ent) := [some (.inl (fun _ => ry_h_push (ry_n 12) 2)), none, some (.inl (fun _ => ry_q_newa 41 22483 0)), none, some (.inl (fun _ => ry_q_put (12, 61, 3, true, false) true)), none, none, some (.inl (fun _ => ry_q_loadA 0 1)), some (.inl (fun _ => ry_h_push (ry_n 13) 2)), none, some (.inl (fun _ => ry_q_newa 41 22483 0)), none, some (.inl (fun _ => ry_q_put (12, 62, 3, true, false) true)), none, none, some (.inl (fun _ => ry_q_loadA 0 1))]
noncomputable def ryE11_23 : List (Option ry_Ent) := [some (.inl (fun _ => ry_h_push (ry_n 18) 2)), none, some (.inl (fun _ => ry_q_newa 41 22483 0)), none, some (.inl (fun _ => ry_q_put (12, 63, 3, true, false) true)), none, none, some (.inl (fun _ => ry_q_loadA 0 1)), some (.inl (fun _ => ry_h_push (ry_n 18) 2)), none, some (.inl (fun _ => ry_q_newa 41 22483 0)), none, some (.inl (fun _ => ry_q_put (12, 64, 3, true, false) true)), none, none, some (.inl (fun _ => ry_q_loadA 0 1))]
noncomputable def ryE11_24 : List (Option ry_Ent) := [some (.inl (fun _ => ry_h_push (ry_n 12) 2)), none, some (.inl (fun _ => ry_q_newa 41 22483 1)), none, some (.inl (fun _ => ry_q_put (12, 65, 3, true, false) true)), none, none, some (.inl (fun _ => ry_q_loadA 0 1)), some (.inl (fun _ => ry_h_push (ry_n 12) 2)), none, some (.inl (fun _ => ry_q_newa 41 22483 1)), none, some (.inl (fun _ => ry_q_put (12, 66, 3, true, false) true)), none, none, some (.inl (fun _ => ry_q_loadA 0 1))]
noncomputable def ryE11_25 : List (Option ry_Ent) := [some (.inl (fun _ => ry_h_push (ry_n 13) 2)), none, some (.inl (fun _ => ry_q_newa 41 22483 0)), none, some (.inl (fun _ => ry_q_put (12, 67, 3, true, false) true)), none, none, some (.inl (fun _ => ry_q_loadA 0 1)), some (.inl (fun _ => ry_h_push (ry_n 12) 2)), none, some (.inl (fun _ => ry_q_newa 41 22483 0)), none, some (.inl (fun _ => ry_q_put (12, 68, 3, true, false) true)), none, none, some (.inl (fun _ => ry_q_loadA 0 1))]
noncomputable def ryE11_26 : List (Option ry_Ent) := [some (.inl (fun _ => ry_h_push (ry_n 36) 2)), none, some (.inl (fun _ => ry_q_newa 41 22483 0)), none, some (.inl (fun _ => ry_q_put (12, 72, 3, true, false) true)), none, none, some (.inl (fun _ => ry_q_loadA 0 1)), some (.inl (fun _ => ry_h_push (ry_n 8) 2)), none, some (.inl (fun _ => ry_q_newa 41 22483 0)), none, some (.inl (fun _ => ry_q_put (12, 73, 3, true, false) true)), none, none, some (.inl (fun _ => ry_q_loadA 0 1))]
noncomputable def ryE11_27 : List (Option ry_Ent) := [some (.inl (fun _ => ry_q_get (12, 3, 3, true, false))), none, none, some (.inl (fun _ => ry_h_push (ry_n 4) 1)), some (.inl (fun _ => ry_h_push (ry_n (-1)) 1)), some (.inl (fun _ => ry_q_ast (ry_isTc 0) (fun I _ _ v => ry_fit I 0 v))), some (.inl (fun _ => ry_q_loadA 0 1)), some (.inl (fun _ => ry_q_get (12, 3, 3, true, false))), none, none, some (.inl (fun _ => ry_h_push (ry_n 9) 2)), none, some (.inl (fun _ => ry_h_push (ry_n 10) 2)), none, some (.inl (fun _ => ry_q_ast (ry_isTc 0) (fun I _ _ v => ry_fit I 0 v))), some (.inr (.inl (ry_q_retv 41 22483)))]
noncomputable def ryE11 : List (List (Option ry_Ent)) := [ryE11_0, ryE11_1, ryE11_2, ryE11_3, ryE11_4, ryE11_5, ryE11_6, ryE11_7, ryE11_8, ryE11_9, ryE11_10, ryE11_11, ryE11_12, ryE11_13, ryE11_14, ryE11_15, ryE11_16, ryE11_17, ryE11_18, ryE11_19, ryE11_20, ryE11_21, ryE11_22, ryE11_23, ryE11_24, ryE11_25, ryE11_26, ryE11_27]
noncomputable def ryE12_0 : List (Option ry_Ent) := [some (.inl (fun _ => ry_q_loadA 0 1)), some (.inl (ry_x_init)), none, none, some (.inl (fun _ => ry_q_loadA 0 1)), some (.inl (fun _ => ry_q_new (10, [0, 3, 3, 3, 3, 0, 3, 3, 3, 3, 0, 3, 3, 3, 0, 0, 3, 3, 3]) 479 26353)), none, none, some (.inl (fun _ => ry_h_dup)), some (.inr (.inr (4, ryM4, ry_q_vcall ryM12 ryM4 0 10))), none, none, some (.inl (fun _ => ry_q_put (11, 0, 3, true, false) true)), none, none, some (.inl (fun _ => ry_q_loadA 0 1))]
noncomputable def ryE12_1 : List (Option ry_Ent) := [some (.inl (fun _ => ry_h_push (ry_n 2) 1)), some (.inl (fun _ => ry_q_newq 10 479 26353)), none, none, some (.inl (fun _ => ry_h_dup)), some (.inl (fun _ => ry_h_push (ry_n 0) 1)), some (.inl (fun _ => ry_q_new (10, [0, 3, 3, 3, 3, 0, 3, 3, 3, 3, 0, 3, 3, 3, 0, 0, 3, 3, 3]) 479 26353)), none, none, some (.inl (fun _ => ry_h_dup)), some (.inr (.inr (4, ryM4, ry_q_vcall ryM12 ryM4 0 10))), none, none, some (.inl (fun _ => ry_q_ast ry_isRef ry_fitA)), some (.inl (fun _ => ry_h_dup)), some (.inl (fun _ => ry_h_push (ry_n 1) 1))]
noncomputable def ryE12_2 : List (Option ry_Ent) := [some (.inl (fun _ => ry_q_new (10, [0, 3, 3, 3, 3, 0, 3, 3, 3, 3, 0, 3, 3, 3, 0, 0, 3, 3, 3]) 479 26353)), none, none, some (.inl (fun _ => ry_h_dup)), some (.inr (.inr (4, ryM4, ry_q_vcall ryM12 ryM4 0 10))), none, none, some (.inl (fun _ => ry_q_ast ry_isRef ry_fitA)), some (.inl (fun _ => ry_q_put (11, 1, 3, true, false) true)), none, none, some (.inl (fun _ => ry_q_loadA 0 1)), some (.inl (fun _ => ry_h_push (ry_n 2) 1)), some (.inl (fun _ => ry_q_newa 479 26353 1)), none, some (.inl (fun _ => ry_q_put (11, 2, 3, true, false) true))]
noncomputable def ryE12_3 : List (Option ry_Ent) := [none, none, some (.inl (fun _ => ry_q_loadA 0 1)), some (.inl (fun _ => ry_h_push (ry_n 400) 3)), none, none, some (.inl (fun _ => ry_q_newa 479 26353 0)), none, some (.inl (fun _ => ry_q_put (11, 3, 3, true, false) true)), none, none, some (.inl (fun _ => ry_q_loadA 0 1)), some (.inl (fun _ => ry_h_push (ry_n 0) 1)), some (.inl (fun _ => ry_q_put (11, 4, 0, false, false) true))]
noncomputable def ryE12_4 : List (Option ry_Ent) := [some (.inl (fun _ => ry_q_loadA 0 1)), some (.inl (fun _ => ry_q_new (7, [3, 0, 0, 0, 0, 1, 3, 0, 0, 3, 0, 3, 3]) 479 26353)), none, none, some (.inl (fun _ => ry_h_dup)), some (.inr (.inr (5, ryM5, ry_q_vcall ryM12 ryM5 0 7))), none, none, some (.inl (fun _ => ry_q_put (11, 5, 3, true, false) true)), none, none, some (.inl (fun _ => ry_q_loadA 0 1)), some (.inl (fun _ => ry_q_new (6, [0, 3, 3, 3, 0, 3, 3, 3, 3, 3, 3]) 479 26353)), none, none, some (.inl (fun _ => ry_h_dup))]
noncomputable def ryE12_5 : List (Option ry_Ent) := [some (.inr (.inr (2, ryM2, ry_q_vcall ryM12 ryM2 0 6))), none, none, some (.inl (fun _ => ry_q_put (11, 6, 3, true, false) true)), none, none, some (.inl (fun _ => ry_q_loadA 0 1)), some (.inl (fun _ => ry_h_push (ry_n 0) 1)), some (.inl (fun _ => ry_q_put (11, 7, 0, false, false) true)), none, none, some (.inl (fun _ => ry_q_loadA 0 1)), some (.inl (fun _ => ry_h_push (ry_n 0) 1)), some (.inl (fun _ => ry_q_put (11, 8, 0, false, false) true))]
noncomputable def ryE12_6 : List (Option ry_Ent) := [some (.inl (fun _ => ry_q_loadA 0 1)), some (.inl (fun _ => ry_h_push (ry_n 5) 1)), some (.inl (fun _ => ry_q_newa 479 26353 0)), none, some (.inl (fun _ => ry_q_put (11, 9, 3, true, false) true)), none, none, some (.inl (fun _ => ry_q_loadA 0 1)), some (.inl (fun _ => ry_q_new (8, [3, 3, 3, 3, 2, 0, 0]) 479 26353)), none, none, some (.inl (fun _ => ry_h_dup)), some (.inr (.inr (6, ryM6, ry_q_vcall ryM12 ryM6 0 8))), none, none, some (.inl (fun _ => ry_q_put (11, 10, 3, true, false) true))]
noncomputable def ryE12_7 : List (Option ry_Ent) := [none, none, some (.inl (fun _ => ry_q_loadA 0 1)), some (.inl (fun _ => ry_q_new (3, [3, 3, 1, 0, 0, 1, 0, 3, 0, 0, 0, 0, 0, 0, 0]) 479 26353)), none, none, some (.inl (fun _ => ry_h_dup)), some (.inr (.inr (7, ryM7, ry_q_vcall ryM12 ryM7 0 3))), none, none, some (.inl (fun _ => ry_q_put (11, 11, 3, true, false) true)), none, none, some (.inl (fun _ => ry_q_loadA 0 1)), some (.inl (fun _ => ry_q_new (4, [0, 3, 3, 3, 3, 0, 0, 0, 1, 0, 0, 3, 3, 3]) 479 26353))]
noncomputable def ryE12_8 : List (Option ry_Ent) := [none, some (.inl (fun _ => ry_h_dup)), some (.inr (.inr (8, ryM8, ry_q_vcall ryM12 ryM8 0 4))), none, none, some (.inl (fun _ => ry_q_put (11, 12, 3, true, false) true)), none, none, some (.inl (fun _ => ry_q_loadA 0 1)), some (.inl (fun _ => ry_q_new (1, [3, 3, 3, 3, 3, 0, 0, 0, 0]) 479 26353)), none, none, some (.inl (fun _ => ry_h_dup)), some (.inr (.inr (9, ryM9, ry_q_vcall ryM12 ryM9 0 1)))]
noncomputable def ryE12_9 : List (Option ry_Ent) := [some (.inl (fun _ => ry_q_put (11, 13, 3, true, false) true)), none, none, some (.inl (fun _ => ry_q_loadA 0 1)), some (.inl (fun _ => ry_q_new (0, [0, 0, 3, 3, 3, 3, 3, 3, 0, 0]) 479 26353)), none, none, some (.inl (fun _ => ry_h_dup)), some (.inr (.inr (10, ryM10, ry_q_vcall ryM12 ryM10 0 0))), none, none, some (.inl (fun _ => ry_q_put (11, 14, 3, true, false) true)), none, none, some (.inl (fun _ => ry_q_loadA 0 1)), some (.inl (fun _ => ry_h_push (ry_n 11) 2))]
noncomputable def ryE12_10 : List (Option ry_Ent) := [none, some (.inl (fun _ => ry_q_newa 479 26353 0)), none, some (.inl (fun _ => ry_q_put (11, 15, 3, true, false) true)), none, none, some (.inl (fun _ => ry_q_loadA 0 1)), some (.inl (fun _ => ry_h_push (ry_n 0) 1)), some (.inl (fun _ => ry_q_put (11, 16, 1, false, false) true)), none, none, some (.inl (fun _ => ry_q_loadA 0 1)), some (.inl (fun _ => ry_q_new (9, [3, 3]) 479 26353)), none, none, some (.inl (fun _ => ry_h_dup))]
noncomputable def ryE12_11 : List (Option ry_Ent) := [some (.inr (.inr (1, ryM1, ry_q_vcall ryM12 ryM1 0 9))), none, none, some (.inl (fun _ => ry_q_put (11, 17, 3, true, false) true)), none, none, some (.inl (fun _ => ry_q_loadA 0 1)), some (.inl (fun _ => ry_h_push (ry_n 8) 2)), none, some (.inl (fun _ => ry_q_newa 479 26353 0)), none, some (.inl (fun _ => ry_q_put (11, 18, 3, true, false) true)), none, none, some (.inl (fun _ => ry_q_loadA 0 1)), some (.inl (fun _ => ry_h_push (ry_n 0) 1))]
noncomputable def ryE12_12 : List (Option ry_Ent) := [some (.inl (fun _ => ry_q_put (11, 19, 0, false, false) true)), none, none, some (.inr (.inl (ry_q_retv 479 26353)))]
noncomputable def ryE12 : List (List (Option ry_Ent)) := [ryE12_0, ryE12_1, ryE12_2, ryE12_3, ryE12_4, ryE12_5, ryE12_6, ryE12_7, ryE12_8, ryE12_9, ryE12_10, ryE12_11, ryE12_12]
noncomputable def ryE13_0 : List (Option ry_Ent) := [some (.inl (fun _ => ry_q_loadA 0 1)), some (.inl (fun _ => ry_q_get (9, 0, 3, true, false))), none, none, some (.inl (fun _ => ry_h_push (ry_n (-1)) 1)), some (.inl (fun d z => ry_if (ry_q_mc 0 0 z) (ry_q_fill d z))), none, none, some (.inl (fun _ => ry_q_loadA 0 1)), some (.inl (fun _ => ry_q_get (9, 1, 3, true, false))), none, none, some (.inl (fun _ => ry_h_push (ry_n (-1)) 1)), some (.inl (fun d z => ry_if (ry_q_mc 0 0 z) (ry_q_fill d z)))]
noncomputable def ryE13_1 : List (Option ry_Ent) := [some (.inr (.inl (ry_q_retv 0 0)))]
noncomputable def ryE13 : List (List (Option ry_Ent)) := [ryE13_0, ryE13_1]
noncomputable def ryE14_0 : List (Option ry_Ent) := [some (.inl (fun _ => ry_q_new (11, [3, 3, 3, 3, 0, 3, 3, 0, 0, 3, 3, 3, 3, 3, 3, 3, 1, 3, 3, 0]) 600000 7302250)), none, none, some (.inl (fun _ => ry_h_dup)), some (.inr (.inr (12, ryM12, ry_q_vcall ryMlaw ryM12 0 11))), none, none, some (.inl (fun _ => ry_h_astore 4 1 1)), some (.inl (fun _ => ry_q_new (12, [0, 0, 3, 3, 3, 3, 0, 3, 0, 0, 0, 0, 2, 0, 1, 1, 0, 3, 0, 3, 3, 0, 3, 3, 0, 0, 3, 3, 0, 3, 3, 3, 1, 2, 2, 3, 3, 0, 3, 3, 3, 3, 0, 3, 3, 0, 0, 0, 0, 0, 3, 3, 3, 3, 0, 3, 3, 3, 0, 0, 3, 3, 3, 3, 3, 3, 3, 3, 3, 0, 0, 2, 3, 3, 0, 1]) 600000 7302250)), none, none, some (.inl (fun _ => ry_h_dup)), some (.inr (.inr (11, ryM11, ry_q_vcall ryMlaw ryM11 0 12)))]
noncomputable def ryE14 : List (List (Option ry_Ent)) := [ryE14_0]
noncomputable def ryEs0 : List (List (List (Option ry_Ent))) := [ryE0, ryE1, ryE2, ryE3, ryE4, ryE5, ryE6, ryE7, ryE8, ryE9, ryE10, ryE11, ryE12, ryE13, ryE14]
noncomputable def ryEs : List (List (List (List (Option ry_Ent)))) := [ryEs0]
noncomputable def ry_fd (t : List (List (List (List (Option ry_Ent))))) (j pc : Nat) : Option ry_Ent := match ry_nth t (Nat.div j 16) with
  | none => none
  | some t => match ry_nth t (Nat.mod j 16) with
    | none => none
    | some t => match ry_nth t (Nat.div pc 16) with
      | none => none
      | some t => match ry_nth t (Nat.mod pc 16) with
        | some (some e) => some e
        | _ => none
noncomputable def ryCT (j pc : Nat) : Option ry_Ent := ry_fd ryEs j pc
noncomputable def ry_chOK (xh : ry_Xh) (T : ry_Tb) (lw : Bool) (M : ry_Mt) : Nat → List (Option ry_Ent) → Prop
  | _, [] => True
  | b, none :: l => ry_chOK xh T lw M (b + 1) l
  | b, some e :: l => ry_entOK xh T lw M b e ∧ ry_chOK xh T lw M (b + 1) l
noncomputable def ry_mcOK (xh : ry_Xh) (T : ry_Tb) (lw : Bool) (M : ry_Mt) : Nat → List (List (Option ry_Ent)) → Prop
  | _, [] => True
  | b, c :: l => ry_chOK xh T lw M b c ∧ ry_mcOK xh T lw M (b + 16) l
noncomputable def ry_goOK (xh : ry_Xh) (T : ry_Tb) (mo : Nat → Option (ry_Mt × Bool)) : Nat → List (List (List (Option ry_Ent))) → Prop
  | _, [] => True
  | j, L :: l => (∀ M lw, mo j = some (M, lw) → ry_mcOK xh T lw M 0 L) ∧ ry_goOK xh T mo (j + 1) l
noncomputable def ry_ggOK (xh : ry_Xh) (T : ry_Tb) (mo : Nat → Option (ry_Mt × Bool)) : Nat → List (List (List (List (Option ry_Ent)))) → Prop
  | _, [] => True
  | j, G :: l => ry_goOK xh T mo j G ∧ ry_ggOK xh T mo (j + 16) l
section RYF
variable {xh : ry_Xh} {T : ry_Tb} {lw : Bool} {M : ry_Mt} {mo : Nat → Option (ry_Mt × Bool)} {b : Nat}
theorem ry_ch_nil : ry_chOK xh T lw M b [] := trivial
theorem ry_ch_none {l : List (Option ry_Ent)} (h : ry_chOK xh T lw M (b + 1) l) : ry_chOK xh T lw M b (none :: l) := h
theorem ry_ch_some {e : ry_Ent} {l : List (Option ry_Ent)} (he : ry_entOK xh T lw M b e) (h : ry_chOK xh T lw M (b + 1) l) : ry_chOK xh T lw M b (some e :: l) := ⟨he, h⟩
theorem ry_mc_nil : ry_mcOK xh T lw M b [] := trivial
theorem ry_mc_cons {c : List (Option ry_Ent)} {l : List (List (Option ry_Ent))} (hc : ry_chOK xh T lw M b c) (h : ry_mcOK xh T lw M (b + 16) l) : ry_mcOK xh T lw M b (c :: l) := ⟨hc, h⟩
theorem ry_go_nil : ry_goOK xh T mo b [] := trivial
theorem ry_go_item {M0 : ry_Mt} {lw0 : Bool} {L : List (List (Option ry_Ent))} (h0 : mo b = some (M0, lw0)) (hm : ry_mcOK xh T lw0 M0 0 L) : ∀ M lw, mo b = some (M, lw) → ry_mcOK xh T lw M 0 L := by
  intro M lw h
  rw [h0] at h
  cases h
  exact hm
theorem ry_go_cons {L : List (List (Option ry_Ent))} {l : List (List (List (Option ry_Ent)))} (hc : ∀ M lw, mo b = some (M, lw) → ry_mcOK xh T lw M 0 L) (h : ry_goOK xh T mo (b + 1) l) : ry_goOK xh T mo b (L :: l) := ⟨hc, h⟩
theorem ry_gg_nil : ry_ggOK xh T mo b [] := trivial
theorem ry_gg_cons {G : List (List (List (Option ry_Ent)))} {l : List (List (List (List (Option ry_Ent))))} (hc : ry_goOK xh T mo b G) (h : ry_ggOK xh T mo (b + 16) l) : ry_ggOK xh T mo b (G :: l) := ⟨hc, h⟩
theorem ry_ch_at : ∀ {c : List (Option ry_Ent)} {b k : Nat} {e : ry_Ent}, ry_chOK xh T lw M b c → ry_nth c k = some (some e) → ry_entOK xh T lw M (b + k) e
  | [], _, _, _, _, h => by cases h
  | none :: l, b, 0, e, _, h => by cases h
  | some e0 :: l, b, 0, e, hc, h => by
    cases h
    exact hc.1
  | none :: l, b, k + 1, e, hc, h => by
    have := ry_ch_at (c := l) (b := b + 1) (k := k) (e := e) hc h
    rw [show b + 1 + k = b + (k + 1) by omega] at this
    exact this
  | some e0 :: l, b, k + 1, e, hc, h => by
    have := ry_ch_at (c := l) (b := b + 1) (k := k) (e := e) hc.2 h
    rw [show b + 1 + k = b + (k + 1) by omega] at this
    exact this
theorem ry_mc_at : ∀ {L : List (List (Option ry_Ent))} {b k : Nat} {c : List (Option ry_Ent)}, ry_mcOK xh T lw M b L → ry_nth L k = some c → ry_chOK xh T lw M (b + 16 * k) c
  | [], _, _, _, _, h => by cases h
  | c0 :: l, b, 0, c, hc, h => by
    cases h
    exact hc.1
  | c0 :: l, b, k + 1, c, hc, h => by
    have := ry_mc_at (L := l) (b := b + 16) (k := k) (c := c) hc.2 h
    rw [show b + 16 + 16 * k = b + 16 * (k + 1) by omega] at this
    exact this
theorem ry_go_at : ∀ {G : List (List (List (Option ry_Ent)))} {b k : Nat} {L : List (List (Option ry_Ent))}, ry_goOK xh T mo b G → ry_nth G k = some L → ∀ M lw, mo (b + k) = some (M, lw) → ry_mcOK xh T lw M 0 L
  | [], _, _, _, _, h => by cases h
  | c0 :: l, b, 0, c, hc, h => by
    cases h
    exact hc.1
  | c0 :: l, b, k + 1, c, hc, h => by
    have := ry_go_at (G := l) (b := b + 1) (k := k) (L := c) hc.2 h
    rw [show b + 1 + k = b + (k + 1) by omega] at this
    exact this
theorem ry_gg_at : ∀ {t : List (List (List (List (Option ry_Ent))))} {b k : Nat} {G : List (List (List (Option ry_Ent)))}, ry_ggOK xh T mo b t → ry_nth t k = some G → ry_goOK xh T mo (b + 16 * k) G
  | [], _, _, _, _, h => by cases h
  | c0 :: l, b, 0, c, hc, h => by
    cases h
    exact hc.1
  | c0 :: l, b, k + 1, c, hc, h => by
    have := ry_gg_at (t := l) (b := b + 16) (k := k) (G := c) hc.2 h
    rw [show b + 16 + 16 * k = b + 16 * (k + 1) by omega] at this
    exact this
theorem ry_fd_ok {t : List (List (List (List (Option ry_Ent))))} {j pc : Nat} {e : ry_Ent} (hg : ry_ggOK xh T mo 0 t) (hm : mo j = some (M, lw)) (h : ry_fd t j pc = some e) : ry_entOK xh T lw M pc e := by
  unfold ry_fd at h
  split at h
  · cases h
  · rename_i G hG
    split at h
    · cases h
    · rename_i L hL
      split at h
      · cases h
      · rename_i c hc
        split at h
        · rename_i e0 he
          cases h
          have h1 := ry_gg_at hg hG
          have ej : 0 + 16 * (Nat.div j 16) + Nat.mod j 16 = j := by
            have := Nat.div_add_mod j 16
            show 0 + 16 * (j / 16) + j % 16 = j
            omega
          have h2 := ry_go_at h1 hL M lw (by rw [ej]; exact hm)
          have h3 := ry_mc_at h2 hc
          have h4 := ry_ch_at h3 he
          have ep : 0 + 16 * (Nat.div pc 16) + Nat.mod pc 16 = pc := by
            have := Nat.div_add_mod pc 16
            show 0 + 16 * (pc / 16) + pc % 16 = pc
            omega
          rw [ep] at h4
          exact h4
        · cases h
end RYF
noncomputable def ryMo (j : Nat) : Option (ry_Mt × Bool) := match ryMtF j with
  | some M => some (M, false)
  | none => match Nat.beq j 14 with
    | true => some (ryMlaw, true)
    | false => none
end
section
noncomputable def ryG : List Jvm.Cond := lw_tbl.filter goodWord
theorem ryGgood : ∀ w ∈ ryG, goodWord w = true := fun _ h => (List.mem_filter.mp h).2
theorem ry_in {w : Jvm.Cond} (h : w ∈ lw_tbl) (hg : goodWord w = true) : w ∈ ryG := List.mem_filter.mpr ⟨h, hg⟩
theorem ry_at1 {w : Jvm.Cond} {n : Nat} (h : tables_1_1[n]? = some w) : w ∈ lw_tbl := List.mem_append_right _ (List.mem_append_left _ (List.mem_of_getElem? h))
theorem ry_at2 {w : Jvm.Cond} {n : Nat} (h : tables_1_2[n]? = some w) : w ∈ lw_tbl := List.mem_append_right _ (List.mem_append_right _ (List.mem_append_left _ (List.mem_of_getElem? h)))
theorem ry_at3 {w : Jvm.Cond} {n : Nat} (h : tables_1_3[n]? = some w) : w ∈ lw_tbl := List.mem_append_right _ (List.mem_append_right _ (List.mem_append_right _ (List.mem_append_left _ (List.mem_of_getElem? h))))
theorem ry_at7 {w : Jvm.Cond} {n : Nat} (h : tables_1_7[n]? = some w) : w ∈ lw_tbl := List.mem_append_right _ (List.mem_append_right _ (List.mem_append_right _ (List.mem_append_right _ (List.mem_append_right _ (List.mem_append_right _ (List.mem_append_right _ (List.mem_append_left _ (List.mem_of_getElem? h))))))))
theorem ry_at8 {w : Jvm.Cond} {n : Nat} (h : tables_1_8[n]? = some w) : w ∈ lw_tbl := List.mem_append_right _ (List.mem_append_right _ (List.mem_append_right _ (List.mem_append_right _ (List.mem_append_right _ (List.mem_append_right _ (List.mem_append_right _ (List.mem_append_right _ (List.mem_append_left _ (List.mem_of_getElem? h)))))))))
theorem ry_lts {P : Nat → Prop} {n : Nat} (h : ∀ k, k < n → P k) (hn : P n) : ∀ k, k < n + 1 → P k := fun k hk => by
  rcases Nat.lt_or_ge k n with h1 | h1
  · exact h k h1
  · exact (Nat.le_antisymm (Nat.le_of_lt_succ hk) h1) ▸ hn
theorem ry_lt0 {P : Nat → Prop} : ∀ k, k < 0 → P k := fun k hk => absurd hk (Nat.not_lt_zero k)
theorem ry_layall {C : String} {T : u_T} {N : Nat} (h : ∀ k, k < N → u_lay C T k ∈ ryG) : ∀ w ∈ u_ws C T N, w ∈ ryG := fun w hw => by
  obtain ⟨k, hk, rfl⟩ := List.mem_map.mp hw
  exact h k (List.mem_range.mp hk)
theorem ryLay0 : ∀ w ∈ u_ws RX0 TX0 10, w ∈ ryG := ry_layall (ry_lts (ry_lts (ry_lts (ry_lts (ry_lts (ry_lts (ry_lts (ry_lts (ry_lts (ry_lts (ry_lt0) (ry_in (ry_at3 (n := 7) rfl) rfl)) (ry_in (ry_at3 (n := 9) rfl) rfl)) (ry_in (ry_at3 (n := 11) rfl) rfl)) (ry_in (ry_at3 (n := 13) rfl) rfl)) (ry_in (ry_at3 (n := 15) rfl) rfl)) (ry_in (ry_at3 (n := 17) rfl) rfl)) (ry_in (ry_at3 (n := 19) rfl) rfl)) (ry_in (ry_at3 (n := 21) rfl) rfl)) (ry_in (ry_at3 (n := 23) rfl) rfl)) (ry_in (ry_at3 (n := 25) rfl) rfl))
theorem ryLay1 : ∀ w ∈ u_ws RX1 TX1 9, w ∈ ryG := ry_layall (ry_lts (ry_lts (ry_lts (ry_lts (ry_lts (ry_lts (ry_lts (ry_lts (ry_lts (ry_lt0) (ry_in (ry_at2 (n := 210) rfl) rfl)) (ry_in (ry_at2 (n := 212) rfl) rfl)) (ry_in (ry_at2 (n := 214) rfl) rfl)) (ry_in (ry_at2 (n := 216) rfl) rfl)) (ry_in (ry_at2 (n := 218) rfl) rfl)) (ry_in (ry_at2 (n := 220) rfl) rfl)) (ry_in (ry_at2 (n := 222) rfl) rfl)) (ry_in (ry_at2 (n := 224) rfl) rfl)) (ry_in (ry_at2 (n := 226) rfl) rfl))
theorem ryLay2 : ∀ w ∈ u_ws RX2 TX2 5, w ∈ ryG := ry_layall (ry_lts (ry_lts (ry_lts (ry_lts (ry_lts (ry_lt0) (ry_in (ry_at1 (n := 84) rfl) rfl)) (ry_in (ry_at1 (n := 86) rfl) rfl)) (ry_in (ry_at1 (n := 88) rfl) rfl)) (ry_in (ry_at1 (n := 90) rfl) rfl)) (ry_in (ry_at1 (n := 92) rfl) rfl))
theorem ryLay3 : ∀ w ∈ u_ws RX3 TX3 15, w ∈ ryG := ry_layall (ry_lts (ry_lts (ry_lts (ry_lts (ry_lts (ry_lts (ry_lts (ry_lts (ry_lts (ry_lts (ry_lts (ry_lts (ry_lts (ry_lts (ry_lts (ry_lt0) (ry_in (ry_at2 (n := 111) rfl) rfl)) (ry_in (ry_at2 (n := 113) rfl) rfl)) (ry_in (ry_at2 (n := 115) rfl) rfl)) (ry_in (ry_at2 (n := 117) rfl) rfl)) (ry_in (ry_at2 (n := 119) rfl) rfl)) (ry_in (ry_at2 (n := 121) rfl) rfl)) (ry_in (ry_at2 (n := 123) rfl) rfl)) (ry_in (ry_at2 (n := 125) rfl) rfl)) (ry_in (ry_at2 (n := 127) rfl) rfl)) (ry_in (ry_at2 (n := 129) rfl) rfl)) (ry_in (ry_at2 (n := 131) rfl) rfl)) (ry_in (ry_at2 (n := 133) rfl) rfl)) (ry_in (ry_at2 (n := 135) rfl) rfl)) (ry_in (ry_at2 (n := 137) rfl) rfl)) (ry_in (ry_at2 (n := 139) rfl) rfl))
theorem ryLay4 : ∀ w ∈ u_ws RX4 TX4 14, w ∈ ryG := ry_layall (ry_lts (ry_lts (ry_lts (ry_lts (ry_lts (ry_lts (ry_lts (ry_lts (ry_lts (ry_lts (ry_lts (ry_lts (ry_lts (ry_lts (ry_lt0) (ry_in (ry_at2 (n := 162) rfl) rfl)) (ry_in (ry_at2 (n := 164) rfl) rfl)) (ry_in (ry_at2 (n := 166) rfl) rfl)) (ry_in (ry_at2 (n := 168) rfl) rfl)) (ry_in (ry_at2 (n := 170) rfl) rfl)) (ry_in (ry_at2 (n := 172) rfl) rfl)) (ry_in (ry_at2 (n := 174) rfl) rfl)) (ry_in (ry_at2 (n := 176) rfl) rfl)) (ry_in (ry_at2 (n := 178) rfl) rfl)) (ry_in (ry_at2 (n := 180) rfl) rfl)) (ry_in (ry_at2 (n := 182) rfl) rfl)) (ry_in (ry_at2 (n := 184) rfl) rfl)) (ry_in (ry_at2 (n := 186) rfl) rfl)) (ry_in (ry_at2 (n := 188) rfl) rfl))
theorem ryLay5 : ∀ w ∈ u_ws RX5 TX5 4, w ∈ ryG := ry_layall (ry_lts (ry_lts (ry_lts (ry_lts (ry_lt0) (ry_in (ry_at1 (n := 58) rfl) rfl)) (ry_in (ry_at1 (n := 60) rfl) rfl)) (ry_in (ry_at1 (n := 62) rfl) rfl)) (ry_in (ry_at1 (n := 64) rfl) rfl))
theorem ryLay6 : ∀ w ∈ u_ws RX6 TX6 11, w ∈ ryG := ry_layall (ry_lts (ry_lts (ry_lts (ry_lts (ry_lts (ry_lts (ry_lts (ry_lts (ry_lts (ry_lts (ry_lts (ry_lt0) (ry_in (ry_at1 (n := 140) rfl) rfl)) (ry_in (ry_at1 (n := 142) rfl) rfl)) (ry_in (ry_at1 (n := 144) rfl) rfl)) (ry_in (ry_at1 (n := 146) rfl) rfl)) (ry_in (ry_at1 (n := 148) rfl) rfl)) (ry_in (ry_at1 (n := 150) rfl) rfl)) (ry_in (ry_at1 (n := 152) rfl) rfl)) (ry_in (ry_at1 (n := 154) rfl) rfl)) (ry_in (ry_at1 (n := 156) rfl) rfl)) (ry_in (ry_at1 (n := 158) rfl) rfl)) (ry_in (ry_at1 (n := 160) rfl) rfl))
theorem ryLay7 : ∀ w ∈ u_ws RX7 TX7 13, w ∈ ryG := ry_layall (ry_lts (ry_lts (ry_lts (ry_lts (ry_lts (ry_lts (ry_lts (ry_lts (ry_lts (ry_lts (ry_lts (ry_lts (ry_lts (ry_lt0) (ry_in (ry_at2 (n := 24) rfl) rfl)) (ry_in (ry_at2 (n := 26) rfl) rfl)) (ry_in (ry_at2 (n := 28) rfl) rfl)) (ry_in (ry_at2 (n := 30) rfl) rfl)) (ry_in (ry_at2 (n := 32) rfl) rfl)) (ry_in (ry_at2 (n := 34) rfl) rfl)) (ry_in (ry_at2 (n := 36) rfl) rfl)) (ry_in (ry_at2 (n := 38) rfl) rfl)) (ry_in (ry_at2 (n := 40) rfl) rfl)) (ry_in (ry_at2 (n := 42) rfl) rfl)) (ry_in (ry_at2 (n := 44) rfl) rfl)) (ry_in (ry_at2 (n := 46) rfl) rfl)) (ry_in (ry_at2 (n := 48) rfl) rfl))
theorem ryLay8 : ∀ w ∈ u_ws RX8 TX8 7, w ∈ ryG := ry_layall (ry_lts (ry_lts (ry_lts (ry_lts (ry_lts (ry_lts (ry_lts (ry_lt0) (ry_in (ry_at2 (n := 67) rfl) rfl)) (ry_in (ry_at2 (n := 69) rfl) rfl)) (ry_in (ry_at2 (n := 71) rfl) rfl)) (ry_in (ry_at2 (n := 73) rfl) rfl)) (ry_in (ry_at2 (n := 75) rfl) rfl)) (ry_in (ry_at2 (n := 77) rfl) rfl)) (ry_in (ry_at2 (n := 79) rfl) rfl))
theorem ryLay9 : ∀ w ∈ u_ws RX9 TX9 2, w ∈ ryG := ry_layall (ry_lts (ry_lts (ry_lt0) (ry_in (ry_at1 (n := 111) rfl) rfl)) (ry_in (ry_at1 (n := 113) rfl) rfl))
theorem ryLay10 : ∀ w ∈ u_ws RX10 TX10 19, w ∈ ryG := ry_layall (ry_lts (ry_lts (ry_lts (ry_lts (ry_lts (ry_lts (ry_lts (ry_lts (ry_lts (ry_lts (ry_lts (ry_lts (ry_lts (ry_lts (ry_lts (ry_lts (ry_lts (ry_lts (ry_lts (ry_lt0) (ry_in (ry_at1 (n := 202) rfl) rfl)) (ry_in (ry_at1 (n := 204) rfl) rfl)) (ry_in (ry_at1 (n := 206) rfl) rfl)) (ry_in (ry_at1 (n := 208) rfl) rfl)) (ry_in (ry_at1 (n := 210) rfl) rfl)) (ry_in (ry_at1 (n := 212) rfl) rfl)) (ry_in (ry_at1 (n := 214) rfl) rfl)) (ry_in (ry_at1 (n := 216) rfl) rfl)) (ry_in (ry_at1 (n := 218) rfl) rfl)) (ry_in (ry_at1 (n := 220) rfl) rfl)) (ry_in (ry_at1 (n := 222) rfl) rfl)) (ry_in (ry_at1 (n := 224) rfl) rfl)) (ry_in (ry_at1 (n := 226) rfl) rfl)) (ry_in (ry_at1 (n := 228) rfl) rfl)) (ry_in (ry_at1 (n := 230) rfl) rfl)) (ry_in (ry_at1 (n := 232) rfl) rfl)) (ry_in (ry_at1 (n := 234) rfl) rfl)) (ry_in (ry_at1 (n := 236) rfl) rfl)) (ry_in (ry_at1 (n := 238) rfl) rfl))
theorem ryLay11 : ∀ w ∈ u_ws RX11 TX11 20, w ∈ ryG := ry_layall (ry_lts (ry_lts (ry_lts (ry_lts (ry_lts (ry_lts (ry_lts (ry_lts (ry_lts (ry_lts (ry_lts (ry_lts (ry_lts (ry_lts (ry_lts (ry_lts (ry_lts (ry_lts (ry_lts (ry_lts (ry_lt0) (ry_in (ry_at3 (n := 50) rfl) rfl)) (ry_in (ry_at3 (n := 52) rfl) rfl)) (ry_in (ry_at3 (n := 54) rfl) rfl)) (ry_in (ry_at3 (n := 56) rfl) rfl)) (ry_in (ry_at3 (n := 58) rfl) rfl)) (ry_in (ry_at3 (n := 60) rfl) rfl)) (ry_in (ry_at3 (n := 62) rfl) rfl)) (ry_in (ry_at3 (n := 64) rfl) rfl)) (ry_in (ry_at3 (n := 66) rfl) rfl)) (ry_in (ry_at3 (n := 68) rfl) rfl)) (ry_in (ry_at3 (n := 70) rfl) rfl)) (ry_in (ry_at3 (n := 72) rfl) rfl)) (ry_in (ry_at3 (n := 74) rfl) rfl)) (ry_in (ry_at3 (n := 76) rfl) rfl)) (ry_in (ry_at3 (n := 78) rfl) rfl)) (ry_in (ry_at3 (n := 80) rfl) rfl)) (ry_in (ry_at3 (n := 82) rfl) rfl)) (ry_in (ry_at3 (n := 84) rfl) rfl)) (ry_in (ry_at3 (n := 86) rfl) rfl)) (ry_in (ry_at3 (n := 88) rfl) rfl))
theorem ryLay12 : ∀ w ∈ u_ws RX12 TX12 76, w ∈ ryG := ry_layall (ry_lts (ry_lts (ry_lts (ry_lts (ry_lts (ry_lts (ry_lts (ry_lts (ry_lts (ry_lts (ry_lts (ry_lts (ry_lts (ry_lts (ry_lts (ry_lts (ry_lts (ry_lts (ry_lts (ry_lts (ry_lts (ry_lts (ry_lts (ry_lts (ry_lts (ry_lts (ry_lts (ry_lts (ry_lts (ry_lts (ry_lts (ry_lts (ry_lts (ry_lts (ry_lts (ry_lts (ry_lts (ry_lts (ry_lts (ry_lts (ry_lts (ry_lts (ry_lts (ry_lts (ry_lts (ry_lts (ry_lts (ry_lts (ry_lts (ry_lts (ry_lts (ry_lts (ry_lts (ry_lts (ry_lts (ry_lts (ry_lts (ry_lts (ry_lts (ry_lts (ry_lts (ry_lts (ry_lts (ry_lts (ry_lts (ry_lts (ry_lts (ry_lts (ry_lts (ry_lts (ry_lts (ry_lts (ry_lts (ry_lts (ry_lts (ry_lts (ry_lt0) (ry_in (ry_at7 (n := 125) rfl) rfl)) (ry_in (ry_at7 (n := 127) rfl) rfl)) (ry_in (ry_at7 (n := 129) rfl) rfl)) (ry_in (ry_at7 (n := 131) rfl) rfl)) (ry_in (ry_at7 (n := 133) rfl) rfl)) (ry_in (ry_at7 (n := 135) rfl) rfl)) (ry_in (ry_at7 (n := 137) rfl) rfl)) (ry_in (ry_at7 (n := 139) rfl) rfl)) (ry_in (ry_at7 (n := 141) rfl) rfl)) (ry_in (ry_at7 (n := 143) rfl) rfl)) (ry_in (ry_at7 (n := 145) rfl) rfl)) (ry_in (ry_at7 (n := 147) rfl) rfl)) (ry_in (ry_at7 (n := 149) rfl) rfl)) (ry_in (ry_at7 (n := 151) rfl) rfl)) (ry_in (ry_at7 (n := 153) rfl) rfl)) (ry_in (ry_at7 (n := 155) rfl) rfl)) (ry_in (ry_at7 (n := 157) rfl) rfl)) (ry_in (ry_at7 (n := 159) rfl) rfl)) (ry_in (ry_at7 (n := 161) rfl) rfl)) (ry_in (ry_at7 (n := 163) rfl) rfl)) (ry_in (ry_at7 (n := 165) rfl) rfl)) (ry_in (ry_at7 (n := 167) rfl) rfl)) (ry_in (ry_at7 (n := 169) rfl) rfl)) (ry_in (ry_at7 (n := 171) rfl) rfl)) (ry_in (ry_at7 (n := 173) rfl) rfl)) (ry_in (ry_at7 (n := 175) rfl) rfl)) (ry_in (ry_at7 (n := 177) rfl) rfl)) (ry_in (ry_at7 (n := 179) rfl) rfl)) (ry_in (ry_at7 (n := 181) rfl) rfl)) (ry_in (ry_at7 (n := 183) rfl) rfl)) (ry_in (ry_at7 (n := 185) rfl) rfl)) (ry_in (ry_at7 (n := 187) rfl) rfl)) (ry_in (ry_at7 (n := 189) rfl) rfl)) (ry_in (ry_at7 (n := 191) rfl) rfl)) (ry_in (ry_at7 (n := 193) rfl) rfl)) (ry_in (ry_at7 (n := 195) rfl) rfl)) (ry_in (ry_at7 (n := 197) rfl) rfl)) (ry_in (ry_at7 (n := 199) rfl) rfl)) (ry_in (ry_at7 (n := 201) rfl) rfl)) (ry_in (ry_at7 (n := 203) rfl) rfl)) (ry_in (ry_at7 (n := 205) rfl) rfl)) (ry_in (ry_at7 (n := 207) rfl) rfl)) (ry_in (ry_at7 (n := 209) rfl) rfl)) (ry_in (ry_at7 (n := 211) rfl) rfl)) (ry_in (ry_at7 (n := 213) rfl) rfl)) (ry_in (ry_at7 (n := 215) rfl) rfl)) (ry_in (ry_at7 (n := 217) rfl) rfl)) (ry_in (ry_at7 (n := 219) rfl) rfl)) (ry_in (ry_at7 (n := 221) rfl) rfl)) (ry_in (ry_at7 (n := 223) rfl) rfl)) (ry_in (ry_at7 (n := 225) rfl) rfl)) (ry_in (ry_at7 (n := 227) rfl) rfl)) (ry_in (ry_at7 (n := 229) rfl) rfl)) (ry_in (ry_at7 (n := 231) rfl) rfl)) (ry_in (ry_at7 (n := 233) rfl) rfl)) (ry_in (ry_at7 (n := 235) rfl) rfl)) (ry_in (ry_at7 (n := 237) rfl) rfl)) (ry_in (ry_at7 (n := 239) rfl) rfl)) (ry_in (ry_at8 (n := 1) rfl) rfl)) (ry_in (ry_at8 (n := 3) rfl) rfl)) (ry_in (ry_at8 (n := 5) rfl) rfl)) (ry_in (ry_at8 (n := 7) rfl) rfl)) (ry_in (ry_at8 (n := 9) rfl) rfl)) (ry_in (ry_at8 (n := 11) rfl) rfl)) (ry_in (ry_at8 (n := 13) rfl) rfl)) (ry_in (ry_at8 (n := 15) rfl) rfl)) (ry_in (ry_at8 (n := 17) rfl) rfl)) (ry_in (ry_at8 (n := 19) rfl) rfl)) (ry_in (ry_at8 (n := 21) rfl) rfl)) (ry_in (ry_at8 (n := 23) rfl) rfl)) (ry_in (ry_at8 (n := 25) rfl) rfl)) (ry_in (ry_at8 (n := 27) rfl) rfl)) (ry_in (ry_at8 (n := 29) rfl) rfl)) (ry_in (ry_at8 (n := 31) rfl) rfl)) (ry_in (ry_at8 (n := 33) rfl) rfl)) (ry_in (ry_at8 (n := 35) rfl) rfl))
end
