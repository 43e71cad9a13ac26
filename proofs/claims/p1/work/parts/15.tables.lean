/-! TABLES, by program (wip/sim/gen.py): what the runs meet of the classes, by class number and entry of its pool; the last number of a row is the place of its word in wsL_law -/
def rx_lku {α : Type} : List (Nat × α) → Nat → Option α
  | [], _ => none
  | q :: l, i => if q.1 = i then some q.2 else rx_lku l i
def rxNm (o : Nat) : String := match o with
  | 0 => RX0
  | 1 => RX1
  | 2 => RX2
  | 3 => RX3
  | 4 => RX4
  | 5 => RX5
  | 6 => RX6
  | 7 => RX7
  | 8 => RX8
  | 9 => RX9
  | 10 => RX10
  | 11 => RX11
  | 12 => RX12
  | 13 => RL
  | _ => ""
def rxNW : List Jvm.Cond := [Cond.fieldLinkNest RX0 44 "DeadUnderstudies$Town" "parts" "I" "DeadUnderstudies", Cond.fieldLinkNest RX0 53 "DeadUnderstudies$Town" "people" "LDeadUnderstudies$People;" "DeadUnderstudies", Cond.fieldLinkNest RX0 56 "DeadUnderstudies$People" "number" "I" "DeadUnderstudies", Cond.fieldLinkNest RX4 56 "DeadUnderstudies$Deeds" "number" "I" "DeadUnderstudies", Cond.fieldLinkNest RX11 114 "DeadUnderstudies$Town" "parts" "I" "DeadUnderstudies", Cond.fieldLinkNest RX11 167 "DeadUnderstudies$Town" "people" "LDeadUnderstudies$People;" "DeadUnderstudies", Cond.fieldLinkNest RX11 171 "DeadUnderstudies$People" "number" "I" "DeadUnderstudies", Cond.fieldLinkNest RX11 201 "DeadUnderstudies$Town" "terms" "[I" "DeadUnderstudies", Cond.fieldLinkNest RX11 220 "DeadUnderstudies$Town" "laws" "I" "DeadUnderstudies", Cond.fieldLinkNest RX11 227 "DeadUnderstudies$Reader" "faultPlace" "I" "DeadUnderstudies", Cond.fieldLinkNest RX11 233 "DeadUnderstudies$Town" "inForce" "I" "DeadUnderstudies", Cond.fieldLinkNest RX11 242 "DeadUnderstudies$Town" "cues" "I" "DeadUnderstudies", Cond.fieldLinkNest RX11 251 "DeadUnderstudies$Town" "versions" "I" "DeadUnderstudies", Cond.fieldLinkNest RX11 388 "DeadUnderstudies$Cast" "fewest" "I" "DeadUnderstudies", Cond.fieldLinkNest RX11 391 "DeadUnderstudies$Cast" "rows" "I" "DeadUnderstudies", Cond.fieldLinkNest RX11 397 "DeadUnderstudies$Town" "deeds" "LDeadUnderstudies$Deeds;" "DeadUnderstudies", Cond.fieldLinkNest RX11 401 "DeadUnderstudies$Deeds" "number" "I" "DeadUnderstudies", Cond.methodLinkNest RX1 11 yX5_init "DeadUnderstudies", Cond.methodLinkNest RX7 34 yX6_init "DeadUnderstudies", Cond.methodLinkNest RX10 30 yX5_init "DeadUnderstudies", Cond.methodLinkNest RX10 58 yX2_init "DeadUnderstudies", Cond.methodLinkNest RX10 85 yX6_init "DeadUnderstudies", Cond.methodLinkNest RX11 34 yX7_init "DeadUnderstudies", Cond.methodLinkNest RX11 41 yX6_init "DeadUnderstudies", Cond.methodLinkNest RX11 57 yX8_init "DeadUnderstudies", Cond.methodLinkNest RX11 64 yX3_init "DeadUnderstudies", Cond.methodLinkNest RX11 71 yX4_init "DeadUnderstudies", Cond.methodLinkNest RX11 78 yX1_init "DeadUnderstudies", Cond.methodLinkNest RX11 85 yX0_init "DeadUnderstudies"]
def rxNWp : List Nat := [301, 312, 181, 211, 302, 313, 183, 329, 331, 391, 333, 324, 315, 620, 622, 327, 212, 574, 385, 176, 206, 253, 380, 429, 432, 460, 520, 569, 607]
def rxAO : List String := [RX9, RX6, RX10]
def rxAOp : List Nat := [309, 368, 513]
def rxFrL0 : List (Nat × rx_Q × Nat) := [(9, (0, 0, 0, false, false), 216), (15, (0, 1, 0, false, false), 217), (18, (0, 2, 3, true, false), 218), (22, (0, 3, 3, true, false), 219), (25, (0, 4, 3, true, false), 220), (29, (0, 5, 3, true, false), 221), (32, (0, 6, 3, true, false), 222), (35, (0, 7, 3, true, false), 223), (38, (0, 8, 0, false, false), 224), (41, (0, 9, 0, false, false), 225), (44, (10, 0, 0, false, true), 0), (53, (10, 4, 3, true, true), 1), (56, (5, 0, 0, false, true), 2)]
def rxFrL1 : List (Nat × rx_Q × Nat) := [(12, (1, 0, 3, false, false), 204), (18, (1, 1, 3, true, false), 205), (22, (1, 2, 3, true, false), 206), (26, (1, 3, 3, true, false), 207), (29, (1, 4, 3, true, false), 208), (32, (1, 5, 0, false, false), 209), (36, (1, 6, 0, false, false), 210), (39, (1, 7, 0, false, false), 211), (42, (1, 8, 0, false, false), 212)]
def rxFrL2 : List (Nat × rx_Q × Nat) := [(9, (2, 0, 0, false, false), 102), (15, (2, 1, 3, true, false), 103), (19, (2, 2, 3, true, false), 104), (22, (2, 3, 3, true, false), 105), (25, (2, 4, 3, true, false), 106)]
def rxFrL3 : List (Nat × rx_Q × Nat) := [(12, (3, 0, 3, true, false), 167), (18, (3, 1, 3, true, false), 168), (21, (3, 2, 1, false, false), 169), (25, (3, 3, 0, false, false), 170), (29, (3, 4, 0, false, false), 171), (32, (3, 5, 1, false, false), 172), (35, (3, 6, 0, false, false), 173), (38, (3, 7, 3, true, false), 174), (42, (3, 8, 0, false, false), 175), (45, (3, 9, 0, false, false), 176), (48, (3, 10, 0, false, false), 177), (51, (3, 11, 0, false, false), 178), (54, (3, 12, 0, false, false), 179), (57, (3, 13, 0, false, false), 180), (60, (3, 14, 0, false, false), 181)]
def rxFrL4 : List (Nat × rx_Q × Nat) := [(9, (4, 0, 0, false, false), 186), (15, (4, 1, 3, true, false), 187), (19, (4, 2, 3, true, false), 188), (22, (4, 3, 3, true, false), 189), (25, (4, 4, 3, true, false), 190), (28, (4, 5, 0, false, false), 191), (31, (4, 6, 0, false, false), 192), (34, (4, 7, 0, false, false), 193), (37, (4, 8, 1, false, false), 194), (41, (4, 9, 0, false, false), 195), (44, (4, 10, 0, false, false), 196), (47, (4, 11, 3, true, false), 197), (50, (4, 12, 3, true, false), 198), (53, (4, 13, 3, true, false), 199), (56, (2, 0, 0, false, true), 3)]
def rxFrL5 : List (Nat × rx_Q × Nat) := [(9, (5, 0, 0, false, false), 95), (15, (5, 1, 3, true, false), 96), (19, (5, 2, 3, true, false), 97), (22, (5, 3, 3, true, false), 98)]
def rxFrL6 : List (Nat × rx_Q × Nat) := [(9, (6, 0, 0, false, false), 124), (15, (6, 1, 3, true, false), 125), (19, (6, 2, 3, true, false), 126), (22, (6, 3, 3, true, false), 128), (26, (6, 4, 0, false, false), 129), (29, (6, 5, 3, true, false), 130), (32, (6, 6, 3, true, false), 131), (35, (6, 7, 3, true, false), 132), (38, (6, 8, 3, true, false), 133), (41, (6, 9, 3, true, false), 134), (44, (6, 10, 3, true, false), 135)]
def rxFrL7 : List (Nat × rx_Q × Nat) := [(9, (7, 0, 3, false, false), 139), (15, (7, 1, 0, false, false), 140), (19, (7, 2, 0, false, false), 141), (22, (7, 3, 0, false, false), 142), (25, (7, 4, 0, false, false), 143), (28, (7, 5, 1, false, false), 144), (35, (7, 6, 3, false, false), 146), (39, (7, 7, 0, false, false), 147), (42, (7, 8, 0, false, false), 148), (45, (7, 9, 3, true, false), 149), (48, (7, 10, 0, false, false), 150), (51, (7, 11, 3, true, false), 151), (54, (7, 12, 3, true, false), 152)]
def rxFrL8 : List (Nat × rx_Q × Nat) := [(11, (8, 0, 3, true, false), 156), (15, (8, 1, 3, true, false), 157), (18, (8, 2, 3, true, false), 158), (21, (8, 3, 3, true, false), 159), (24, (8, 4, 2, false, false), 160), (28, (8, 5, 0, false, false), 161), (32, (8, 6, 0, false, false), 162)]
def rxFrL9 : List (Nat × rx_Q × Nat) := [(9, (9, 0, 3, true, false), 111), (15, (9, 1, 3, true, false), 112)]
def rxFrL10 : List (Nat × rx_Q × Nat) := [(9, (10, 0, 0, false, false), 65), (15, (10, 1, 3, true, false), 66), (19, (10, 2, 3, true, false), 67), (24, (10, 3, 3, true, false), 69), (31, (10, 4, 3, true, false), 73), (35, (10, 5, 0, false, false), 74), (38, (10, 6, 3, true, false), 75), (41, (10, 7, 3, true, false), 76), (44, (10, 8, 3, true, false), 77), (47, (10, 9, 3, true, false), 78), (50, (10, 10, 0, false, false), 79), (53, (10, 11, 3, true, false), 80), (59, (10, 12, 3, true, false), 84), (63, (10, 13, 3, true, false), 85), (66, (10, 14, 0, false, false), 86), (69, (10, 15, 0, false, false), 87), (74, (10, 16, 3, true, false), 89), (78, (10, 17, 3, true, false), 90), (81, (10, 18, 3, true, false), 91)]
def rxFrL11 : List (Nat × rx_Q × Nat) := [(12, (11, 0, 3, true, false), 15), (16, (11, 1, 3, true, false), 16), (20, (11, 2, 3, true, false), 18), (24, (11, 3, 3, true, false), 20), (28, (11, 4, 0, false, false), 21), (35, (11, 5, 3, true, false), 25), (42, (11, 6, 3, true, false), 29), (46, (11, 7, 0, false, false), 30), (49, (11, 8, 0, false, false), 31), (52, (11, 9, 3, true, false), 32), (58, (11, 10, 3, true, false), 36), (65, (11, 11, 3, true, false), 40), (72, (11, 12, 3, true, false), 44), (79, (11, 13, 3, true, false), 48), (86, (11, 14, 3, true, false), 52), (90, (11, 15, 3, true, false), 53), (93, (11, 16, 1, false, false), 54), (100, (11, 17, 3, true, false), 58), (104, (11, 18, 3, true, false), 59), (107, (11, 19, 0, false, false), 60), (114, (10, 0, 0, false, true), 4), (167, (10, 4, 3, true, true), 5), (171, (5, 0, 0, false, true), 6), (201, (10, 13, 3, true, true), 7), (220, (10, 14, 0, false, true), 8), (227, (7, 4, 0, false, true), 9), (233, (10, 15, 0, false, true), 10), (242, (10, 10, 0, false, true), 11), (251, (10, 5, 0, false, true), 12), (388, (0, 8, 0, false, true), 13), (391, (0, 9, 0, false, true), 14), (397, (10, 12, 3, true, true), 15), (401, (2, 0, 0, false, true), 16)]
def rxFrL12 : List (Nat × rx_Q × Nat) := [(7, (12, 2, 3, true, false), 231), (13, (12, 3, 3, true, false), 232), (16, (12, 4, 3, true, false), 233), (19, (12, 5, 3, true, false), 234), (23, (12, 7, 3, true, false), 235), (26, (12, 13, 0, false, false), 236), (30, (12, 17, 3, true, false), 237), (33, (12, 19, 3, true, false), 238), (36, (12, 20, 3, true, false), 239), (39, (12, 22, 3, true, false), 240), (42, (12, 23, 3, true, false), 241), (61, (12, 26, 3, true, false), 250), (73, (12, 27, 3, true, false), 255), (76, (12, 29, 3, true, false), 256), (79, (12, 30, 3, true, false), 257), (82, (12, 31, 3, true, false), 258), (85, (12, 35, 3, true, false), 259), (88, (12, 36, 3, true, false), 260), (91, (12, 38, 3, true, false), 261), (94, (12, 39, 3, true, false), 262), (97, (12, 40, 3, true, false), 263), (100, (12, 41, 3, true, false), 264), (103, (12, 43, 3, true, false), 265), (106, (12, 44, 3, true, false), 266), (109, (12, 50, 3, true, false), 267), (112, (12, 51, 3, true, false), 268), (115, (12, 52, 3, true, false), 269), (118, (12, 53, 3, true, false), 270), (121, (12, 55, 3, true, false), 271), (124, (12, 56, 3, true, false), 272), (127, (12, 57, 3, true, false), 273), (130, (12, 60, 3, true, false), 274), (133, (12, 61, 3, true, false), 275), (136, (12, 62, 3, true, false), 276), (139, (12, 63, 3, true, false), 277), (142, (12, 64, 3, true, false), 278), (145, (12, 65, 3, true, false), 279), (148, (12, 66, 3, true, false), 280), (151, (12, 67, 3, true, false), 281), (154, (12, 68, 3, true, false), 282), (157, (12, 72, 3, true, false), 283), (160, (12, 73, 3, true, false), 284), (163, (12, 0, 0, false, false), 306), (166, (12, 1, 0, false, false), 316), (236, (12, 8, 0, false, false), 511), (239, (12, 6, 0, false, false), 536), (246, (12, 10, 0, false, false), 800), (249, (12, 14, 1, false, false), 787), (256, (12, 9, 0, false, false), 805), (259, (12, 12, 2, false, false), 806), (269, (12, 11, 0, false, false), 807), (288, (12, 18, 0, false, false), 794), (317, (12, 21, 0, false, false), 795), (326, (12, 15, 1, false, false), 788), (374, (12, 16, 0, false, false), 789), (562, (12, 58, 0, false, false), 1499), (565, (12, 59, 0, false, false), 1498), (580, (12, 69, 0, false, false), 1606), (583, (12, 70, 0, false, false), 1619), (613, (12, 75, 1, false, false), 1680)]
def rxFrL (o : Nat) : List (Nat × rx_Q × Nat) := match o with
  | 0 => rxFrL0
  | 1 => rxFrL1
  | 2 => rxFrL2
  | 3 => rxFrL3
  | 4 => rxFrL4
  | 5 => rxFrL5
  | 6 => rxFrL6
  | 7 => rxFrL7
  | 8 => rxFrL8
  | 9 => rxFrL9
  | 10 => rxFrL10
  | 11 => rxFrL11
  | 12 => rxFrL12
  | _ => []
def rxCrL1 : List (Nat × (Nat × List Nat) × Nat × Nat × Nat) := [(9, (5, [0, 3, 3, 3]), 203, 71, 72)]
def rxCrL3 : List (Nat × (Nat × List Nat) × Nat × Nat × Nat) := [(9, (9, [3, 3]), 166, 56, 57)]
def rxCrL7 : List (Nat × (Nat × List Nat) × Nat × Nat × Nat) := [(32, (6, [0, 3, 3, 3, 0, 3, 3, 3, 3, 3, 3]), 145, 27, 28)]
def rxCrL10 : List (Nat × (Nat × List Nat) × Nat × Nat × Nat) := [(22, (9, [3, 3]), 68, 56, 57), (28, (5, [0, 3, 3, 3]), 70, 71, 72), (56, (2, [0, 3, 3, 3, 3]), 81, 82, 83), (72, (6, [0, 3, 3, 3, 0, 3, 3, 3, 3, 3, 3]), 88, 27, 28)]
def rxCrL11 : List (Nat × (Nat × List Nat) × Nat × Nat × Nat) := [(9, (10, [0, 3, 3, 3, 3, 0, 3, 3, 3, 3, 0, 3, 3, 3, 0, 0, 3, 3, 3]), 12, 13, 14), (32, (7, [3, 0, 0, 0, 0, 1, 3, 0, 0, 3, 0, 3, 3]), 22, 23, 24), (39, (6, [0, 3, 3, 3, 0, 3, 3, 3, 3, 3, 3]), 26, 27, 28), (55, (8, [3, 3, 3, 3, 2, 0, 0]), 33, 34, 35), (62, (3, [3, 3, 1, 0, 0, 1, 0, 3, 0, 0, 0, 0, 0, 0, 0]), 37, 38, 39), (69, (4, [0, 3, 3, 3, 3, 0, 0, 0, 1, 0, 0, 3, 3, 3]), 41, 42, 43), (76, (1, [3, 3, 3, 3, 3, 0, 0, 0, 0]), 45, 46, 47), (83, (0, [0, 0, 3, 3, 3, 3, 3, 3, 0, 0]), 49, 50, 51), (97, (9, [3, 3]), 55, 56, 57)]
def rxCrL13 : List (Nat × (Nat × List Nat) × Nat × Nat × Nat) := [(7, (11, [3, 3, 3, 3, 0, 3, 3, 0, 0, 3, 3, 3, 3, 3, 3, 3, 1, 3, 3, 0]), 0, 1, 2), (10, (12, [0, 0, 3, 3, 3, 3, 0, 3, 0, 0, 0, 0, 2, 0, 1, 1, 0, 3, 0, 3, 3, 0, 3, 3, 0, 0, 3, 3, 0, 3, 3, 3, 1, 2, 2, 3, 3, 0, 3, 3, 3, 3, 0, 3, 3, 0, 0, 0, 0, 0, 3, 3, 3, 3, 0, 3, 3, 3, 0, 0, 3, 3, 3, 3, 3, 3, 3, 3, 3, 0, 0, 2, 3, 3, 0, 1]), 3, 4, 5)]
def rxCrL (o : Nat) : List (Nat × (Nat × List Nat) × Nat × Nat × Nat) := match o with
  | 1 => rxCrL1
  | 3 => rxCrL3
  | 7 => rxCrL7
  | 10 => rxCrL10
  | 11 => rxCrL11
  | 13 => rxCrL13
  | _ => []
def rxArL10 : List (Nat × Nat × Nat) := [(22, 9, 68), (72, 6, 88)]
def rxArL11 : List (Nat × Nat × Nat) := [(9, 10, 12)]
def rxArL (o : Nat) : List (Nat × Nat × Nat) := match o with
  | 10 => rxArL10
  | 11 => rxArL11
  | _ => []
def rxKcL11 : List (Nat × Nat × Int × Nat) := [(339, 1, -1, 1341), (420, 0, 1000000, 1652)]
def rxKcL12 : List (Nat × Nat × Int × Nat) := [(45, 1, 542723566, 242), (47, 1, 441892441, 243), (49, 1, 81486, 244), (51, 1, 136228, 245), (53, 1, 525908, 246), (55, 1, 21643763890, 247), (57, 1, 824370, 248), (59, 1, 441828, 249), (65, 1, 20579973, 251), (67, 1, 3749, 252), (69, 1, 769604, 253), (71, 1, 464660, 254), (177, 1, 5, 344), (179, 1, 9, 351), (187, 1, 23, 307), (189, 1, 24, 308), (219, 1, 3, 417), (224, 1, 200, 437), (226, 1, 300, 438), (234, 1, 100, 498), (276, 1, -1, 810), (278, 1, 1000000, 811), (377, 1, 20325907, 967), (379, 1, 8902227, 968), (381, 1, 67155, 969), (530, 1, 6, 1349), (561, 0, 1000000, 1504), (622, 1, 13, 1741), (624, 1, 15, 1742)]
def rxKcL (o : Nat) : List (Nat × Nat × Int × Nat) := match o with
  | 11 => rxKcL11
  | 12 => rxKcL12
  | _ => []
def rxCjL0 : List (Nat × rx_J × Nat) := [(71, (0, 0, 0, 22), 1469), (74, (0, 0, 0, 23), 1473), (83, (0, 2, 0, 24), 1482)]
def rxCjL1 : List (Nat × rx_J × Nat) := [(11, (5, 0, 5, 0), 17)]
def rxCjL3 : List (Nat × rx_J × Nat) := [(11, (2, 0, 9, 1), 182)]
def rxCjL4 : List (Nat × rx_J × Nat) := [(62, (0, 4, 4, 26), 1564), (78, (0, 3, 4, 27), 1570), (82, (0, 0, 4, 28), 1574), (86, (1, 2, 4, 13), 1582), (99, (0, 0, 4, 29), 1578), (102, (0, 1, 4, 25), 1585)]
def rxCjL7 : List (Nat × rx_J × Nat) := [(34, (5, 0, 6, 2), 18), (63, (0, 0, 6, 31), 557), (66, (0, 0, 7, 32), 561), (73, (0, 0, 7, 33), 733), (83, (0, 0, 7, 34), 634), (100, (0, 1, 7, 30), 581)]
def rxCjL9 : List (Nat × rx_J × Nat) := [(18, (0, 0, 9, 35), 113)]
def rxCjL10 : List (Nat × rx_J × Nat) := [(30, (5, 0, 5, 0), 19), (58, (5, 0, 2, 3), 20), (84, (2, 0, 9, 1), 107), (85, (5, 0, 6, 2), 21), (92, (0, 1, 9, 36), 1710), (96, (0, 1, 5, 37), 1711), (99, (0, 1, 2, 38), 1716), (105, (0, 0, 9, 35), 297)]
def rxCjL11 : List (Nat × rx_J × Nat) := [(11, (2, 0, 10, 4), 61), (34, (5, 0, 7, 5), 22), (41, (5, 0, 6, 2), 23), (57, (5, 0, 8, 6), 24), (64, (5, 0, 3, 7), 25), (71, (5, 0, 4, 8), 26), (78, (5, 0, 1, 9), 27), (85, (5, 0, 0, 10), 28), (99, (2, 0, 9, 1), 226), (110, (0, 1, 11, 39), 289), (117, (0, 2, 10, 40), 293), (121, (0, 1, 11, 41), 298), (124, (1, 2, 11, 14), 321), (128, (0, 1, 10, 42), 324), (164, (1, 1, 11, 15), 426), (176, (0, 3, 5, 43), 429), (180, (1, 1, 11, 16), 443), (183, (0, 1, 5, 44), 446), (198, (1, 1, 11, 17), 491), (204, (0, 1, 11, 45), 503), (212, (0, 4, 7, 46), 549), (230, (0, 1, 10, 47), 982), (245, (0, 1, 10, 48), 1034), (264, (0, 1, 10, 49), 1085), (298, (0, 3, 11, 50), 1235), (341, (1, 3, 11, 18), 1342), (382, (0, 1, 0, 51), 1459), (385, (0, 0, 0, 52), 1465), (394, (0, 1, 0, 53), 1490), (404, (0, 3, 2, 54), 1521), (408, (0, 1, 4, 55), 1556), (411, (0, 0, 4, 56), 1560), (414, (0, 1, 4, 57), 1598), (417, (0, 3, 4, 58), 1640), (431, (0, 1, 10, 59), 1705)]
def rxCjL12 : List (Nat × rx_J × Nat) := [(169, (1, 3, 12, 19), 309), (173, (0, 1, 12, 156), 312), (194, (0, 1, 12, 157), 363), (197, (1, 2, 12, 20), 345), (201, (1, 1, 12, 21), 348), (205, (0, 1, 12, 158), 352), (228, (0, 1, 12, 159), 454), (242, (0, 1, 12, 160), 512), (253, (0, 0, 12, 161), 801), (284, (0, 1, 12, 162), 834), (307, (0, 1, 12, 163), 830), (371, (0, 0, 12, 164), 796), (388, (0, 1, 12, 165), 790), (391, (0, 0, 12, 166), 963), (394, (0, 0, 12, 167), 919), (472, (0, 1, 12, 168), 1118), (517, (0, 3, 12, 169), 1282), (568, (0, 1, 12, 170), 1505), (574, (0, 0, 12, 171), 1500), (586, (0, 3, 12, 172), 1620), (595, (0, 0, 12, 173), 1611), (598, (0, 3, 12, 174), 1615), (601, (0, 2, 12, 175), 1607)]
def rxCjL13 : List (Nat × rx_J × Nat) := [(9, (2, 0, 11, 12), 6), (12, (2, 0, 12, 11), 227), (13, (0, 2, 11, 74), 285), (17, (0, 2, 12, 95), 302), (18, (0, 5, 11, 101), 317), (22, (0, 5, 12, 118), 340), (23, (0, 3, 11, 119), 367), (27, (0, 3, 12, 120), 376), (28, (0, 4, 11, 121), 380), (32, (0, 4, 12, 122), 391), (33, (0, 2, 11, 123), 401), (36, (0, 2, 12, 124), 413), (37, (0, 3, 11, 125), 422), (40, (0, 3, 12, 126), 433), (41, (0, 3, 11, 127), 439), (44, (0, 3, 12, 128), 450), (45, (0, 2, 11, 129), 462), (48, (0, 2, 12, 130), 475), (49, (0, 2, 11, 131), 487), (52, (0, 2, 12, 132), 494), (53, (0, 5, 11, 133), 499), (56, (0, 5, 12, 134), 507), (57, (0, 1, 11, 135), 516), (61, (0, 1, 12, 136), 520), (62, (0, 1, 11, 137), 524), (65, (0, 1, 12, 138), 532), (66, (0, 0, 11, 139), 537), (70, (0, 0, 12, 140), 541), (71, (0, 1, 11, 141), 545), (74, (0, 1, 12, 142), 783), (75, (0, 0, 11, 143), 943), (78, (0, 0, 12, 144), 959), (79, (0, 0, 11, 145), 970), (82, (0, 0, 12, 146), 974), (83, (0, 1, 11, 147), 978), (86, (0, 1, 12, 148), 986), (87, (0, 4, 11, 149), 990), (90, (0, 4, 12, 150), 1004), (91, (0, 1, 11, 151), 1030), (94, (0, 1, 12, 152), 1038), (95, (0, 0, 11, 153), 1042), (98, (0, 0, 12, 154), 1046), (99, (0, 2, 11, 155), 1050), (102, (0, 2, 12, 60), 1073), (103, (0, 3, 11, 61), 1081), (106, (0, 3, 12, 62), 1114), (107, (0, 0, 11, 63), 1130), (110, (0, 0, 12, 64), 1134), (111, (0, 2, 11, 65), 1138), (114, (0, 2, 12, 66), 1146), (115, (0, 4, 11, 67), 1151), (118, (0, 4, 12, 68), 1155), (119, (0, 2, 11, 69), 1159), (122, (0, 2, 12, 70), 1167), (123, (0, 1, 11, 71), 1176), (126, (0, 1, 12, 72), 1180), (127, (0, 3, 11, 73), 1184), (130, (0, 3, 12, 75), 1206), (131, (0, 2, 11, 76), 1223), (134, (0, 2, 12, 77), 1227), (135, (0, 4, 11, 78), 1231), (138, (0, 4, 12, 79), 1274), (139, (0, 4, 11, 80), 1292), (142, (0, 4, 12, 81), 1306), (143, (0, 2, 11, 82), 1310), (146, (0, 2, 12, 83), 1329), (147, (0, 2, 11, 84), 1337), (151, (0, 2, 12, 85), 1345), (152, (0, 3, 11, 86), 1350), (155, (0, 3, 12, 87), 1362), (156, (0, 2, 11, 88), 1374), (159, (0, 2, 12, 89), 1393), (160, (0, 3, 11, 90), 1398), (163, (0, 3, 12, 91), 1431), (164, (0, 1, 11, 92), 1455), (167, (0, 1, 12, 93), 1494), (168, (0, 3, 11, 94), 1517), (171, (0, 3, 12, 96), 1525), (172, (0, 0, 11, 97), 1529), (175, (0, 0, 12, 98), 1533), (176, (0, 1, 11, 99), 1537), (179, (0, 1, 12, 100), 1548), (180, (0, 1, 11, 102), 1552), (183, (0, 1, 12, 103), 1602), (184, (0, 2, 11, 104), 1636), (187, (0, 2, 12, 105), 1644), (188, (0, 3, 11, 106), 1648), (191, (0, 3, 12, 107), 1675), (192, (0, 3, 11, 108), 1689), (195, (0, 3, 12, 109), 1697), (196, (0, 1, 11, 110), 1701), (199, (0, 1, 12, 111), 1721), (200, (0, 1, 11, 112), 1725), (203, (0, 1, 12, 113), 1729), (204, (0, 1, 11, 114), 1733), (207, (0, 1, 12, 115), 1737), (208, (0, 0, 11, 116), 1743), (211, (0, 0, 12, 117), 1747)]
def rxCjL (o : Nat) : List (Nat × rx_J × Nat) := match o with
  | 0 => rxCjL0
  | 1 => rxCjL1
  | 3 => rxCjL3
  | 4 => rxCjL4
  | 7 => rxCjL7
  | 9 => rxCjL9
  | 10 => rxCjL10
  | 11 => rxCjL11
  | 12 => rxCjL12
  | 13 => rxCjL13
  | _ => []
def rxXtL0 : List (Nat × Nat) := [(3, 10), (47, 13), (77, 12)]
def rxXtL1 : List (Nat × Nat) := [(3, 10)]
def rxXtL2 : List (Nat × Nat) := [(3, 10), (28, 11)]
def rxXtL3 : List (Nat × Nat) := [(3, 10)]
def rxXtL4 : List (Nat × Nat) := [(3, 10), (66, 13), (72, 12)]
def rxXtL5 : List (Nat × Nat) := [(3, 10), (25, 11)]
def rxXtL6 : List (Nat × Nat) := [(3, 10)]
def rxXtL7 : List (Nat × Nat) := [(3, 10), (57, 13), (238, 14)]
def rxXtL8 : List (Nat × Nat) := [(3, 10)]
def rxXtL9 : List (Nat × Nat) := [(3, 10), (21, 12), (27, 11)]
def rxXtL10 : List (Nat × Nat) := [(3, 10), (86, 11)]
def rxXtL11 : List (Nat × Nat) := [(3, 10)]
def rxXtL12 : List (Nat × Nat) := [(1, 10)]
def rxXtL (o : Nat) : List (Nat × Nat) := match o with
  | 0 => rxXtL0
  | 1 => rxXtL1
  | 2 => rxXtL2
  | 3 => rxXtL3
  | 4 => rxXtL4
  | 5 => rxXtL5
  | 6 => rxXtL6
  | 7 => rxXtL7
  | 8 => rxXtL8
  | 9 => rxXtL9
  | 10 => rxXtL10
  | 11 => rxXtL11
  | 12 => rxXtL12
  | _ => []
def rxStL7 : List (Nat × Nat) := [(121, 1), (123, 3), (125, 2)]
def rxStL (o : Nat) : List (Nat × Nat) := match o with
  | 7 => rxStL7
  | _ => []
def rxSlen : List Nat := [0, 4, 5, 5]
/-- methods; places of their words: code, initialized, static, instance, selects -/
def rxML0 : List (rx_Mt × Nat × Nat × Nat × Nat × Nat) := [((5, cX5_init, 1, none, yX5_init, true, 3, 24), 93, 72, 0, 92, 0),
  ((9, cX9_init, 1, none, yX9_init, true, 2, 72), 109, 57, 0, 108, 0),
  ((6, cX6_init, 1, none, yX6_init, true, 9, 936), 122, 28, 0, 121, 0),
  ((2, cX2_init, 1, none, yX2_init, true, 4, 40), 100, 83, 0, 99, 0),
  ((10, cX10_init, 2, none, yX10_init, true, 135, 7185), 63, 14, 0, 62, 0),
  ((7, cX7_init, 1, none, yX7_init, true, 14, 1756), 137, 24, 0, 136, 0),
  ((8, cX8_init, 1, none, yX8_init, true, 4, 144), 154, 35, 0, 153, 0),
  ((3, cX3_init, 1, none, yX3_init, true, 7, 580), 164, 39, 0, 163, 0),
  ((4, cX4_init, 1, none, yX4_init, true, 7, 88), 184, 43, 0, 183, 0),
  ((1, cX1_init, 1, none, yX1_init, true, 8, 116), 201, 47, 0, 200, 0),
  ((0, cX0_init, 1, none, yX0_init, true, 6, 540), 214, 51, 0, 213, 0),
  ((12, cX12_init, 1, none, yX12_init, true, 41, 22483), 229, 5, 0, 228, 0),
  ((11, cX11_init, 1, none, yX11_init, true, 479, 26353), 8, 2, 0, 7, 0),
  ((4, cX4_ruleAt, 2, (some .int), yX4_ruleAt, false, 0, 0), 1584, 43, 1583, 0, 0),
  ((11, cX11_isRule, 2, (some .boolean), yX11_isRule, false, 0, 0), 323, 2, 322, 0, 0),
  ((11, cX11_isMemory, 1, (some .boolean), yX11_isMemory, false, 0, 0), 428, 2, 427, 0, 0),
  ((11, cX11_isYear, 1, (some .boolean), yX11_isYear, false, 0, 0), 445, 2, 444, 0, 0),
  ((11, cX11_mostOfTerm, 1, (some .int), yX11_mostOfTerm, false, 0, 0), 493, 2, 492, 0, 0),
  ((11, cX11_chances, 8, (some .long), yX11_chances, false, 0, 0), 1344, 2, 1343, 0, 0),
  ((12, cX12_in, 6, (some .boolean), yX12_in, false, 0, 0), 311, 5, 310, 0, 0),
  ((12, cX12_isPlace, 2, (some .boolean), yX12_isPlace, false, 0, 0), 347, 5, 346, 0, 0),
  ((12, cX12_isSaid, 1, (some .boolean), yX12_isSaid, false, 0, 0), 350, 5, 349, 0, 0),
  ((0, cX0_markFits, 3, none, yX0_markFits, false, 0, 0), 1472, 51, 0, 1470, 1471),
  ((0, cX0_countWays, 4, none, yX0_countWays, false, 0, 0), 1476, 51, 0, 1474, 1475),
  ((0, cX0_findRow, 4, (some .boolean), yX0_findRow, false, 0, 0), 1485, 51, 0, 1483, 1484),
  ((4, cX4_wordsOf, 3, (some .int), yX4_wordsOf, false, 0, 0), 1588, 43, 0, 1586, 1587),
  ((4, cX4_search, 5, none, yX4_search, false, 0, 0), 1567, 43, 0, 1565, 1566),
  ((4, cX4_explore, 6, none, yX4_explore, false, 0, 0), 1573, 43, 0, 1571, 1572),
  ((4, cX4_wordsHere, 4, (some .int), yX4_wordsHere, false, 0, 0), 1577, 43, 0, 1575, 1576),
  ((4, cX4_stateBehindRow, 3, (some .int), yX4_stateBehindRow, false, 0, 0), 1581, 43, 0, 1579, 1580),
  ((7, cX7_isWord, 3, (some .boolean), yX7_isWord, false, 0, 0), 584, 24, 0, 582, 583),
  ((6, cX6_clear, 1, none, yX6_clear, false, 0, 0), 560, 28, 0, 558, 559),
  ((7, cX7_advance, 3, none, yX7_advance, false, 0, 0), 564, 24, 0, 562, 563),
  ((7, cX7_readLawClause, 3, (some .boolean), yX7_readLawClause, false, 0, 0), 736, 24, 0, 734, 735),
  ((7, cX7_fail, 1, (some .boolean), yX7_fail, false, 0, 0), 637, 24, 0, 635, 636),
  ((9, cX9_clear, 1, none, yX9_clear, false, 0, 0), 116, 57, 0, 114, 115),
  ((9, cX9_copyFrom, 2, none, yX9_copyFrom, false, 0, 0), 1071, 57, 0, 1069, 1070),
  ((5, cX5_copyFrom, 2, none, yX5_copyFrom, false, 0, 0), 1714, 72, 0, 1712, 1713),
  ((2, cX2_copyFrom, 2, none, yX2_copyFrom, false, 0, 0), 1719, 83, 0, 1717, 1718),
  ((11, cX11_refuse, 2, (some .int), yX11_refuse, false, 0, 0), 292, 2, 0, 290, 291)]
def rxML1 : List (rx_Mt × Nat × Nat × Nat × Nat × Nat) := [((10, cX10_addPart, 3, (some .int), yX10_addPart, false, 0, 0), 296, 14, 0, 294, 295),
  ((11, cX11_accept, 2, (some .int), yX11_accept, false, 0, 0), 301, 2, 0, 299, 300),
  ((10, cX10_hasPart, 2, (some .boolean), yX10_hasPart, false, 0, 0), 327, 14, 0, 325, 326),
  ((5, cX5_add, 4, (some .int), yX5_add, false, 0, 0), 432, 72, 0, 430, 431),
  ((5, cX5_has, 2, (some .boolean), yX5_has, false, 0, 0), 449, 72, 0, 447, 448),
  ((11, cX11_putBytes, 3, none, yX11_putBytes, false, 0, 0), 506, 2, 0, 504, 505),
  ((7, cX7_read, 7, (some .boolean), yX7_read, false, 0, 0), 552, 24, 0, 550, 551),
  ((10, cX10_hasLaw, 2, (some .boolean), yX10_hasLaw, false, 0, 0), 985, 14, 0, 983, 984),
  ((10, cX10_addCue, 2, (some .int), yX10_addCue, false, 0, 0), 1037, 14, 0, 1035, 1036),
  ((10, cX10_hasVersion, 2, (some .boolean), yX10_hasVersion, false, 0, 0), 1088, 14, 0, 1086, 1087),
  ((11, cX11_seatDuet, 4, (some .boolean), yX11_seatDuet, false, 0, 0), 1238, 2, 0, 1236, 1237),
  ((0, cX0_lay, 5, none, yX0_lay, false, 0, 0), 1462, 51, 0, 1460, 1461),
  ((0, cX0_solve, 3, none, yX0_solve, false, 0, 0), 1468, 51, 0, 1466, 1467),
  ((0, cX0_playerOf, 2, (some .int), yX0_playerOf, false, 0, 0), 1493, 51, 0, 1491, 1492),
  ((2, cX2_add, 4, (some .int), yX2_add, false, 0, 0), 1524, 83, 0, 1522, 1523),
  ((4, cX4_lay, 4, none, yX4_lay, false, 0, 0), 1559, 43, 0, 1557, 1558),
  ((4, cX4_fewestStates, 2, (some .int), yX4_fewestStates, false, 0, 0), 1563, 43, 0, 1561, 1562),
  ((4, cX4_countWays, 2, (some .int), yX4_countWays, false, 0, 0), 1601, 43, 0, 1599, 1600),
  ((4, cX4_wordsBehind, 4, (some .int), yX4_wordsBehind, false, 0, 0), 1643, 43, 0, 1641, 1642),
  ((10, cX10_copyFrom, 3, none, yX10_copyFrom, false, 0, 0), 1708, 14, 0, 1706, 1707),
  ((12, cX12_begin_, 5, (some .int), yX12_begin_, false, 0, 0), 1076, 5, 0, 1074, 1075),
  ((11, cX11_learn, 5, (some .int), yX11_learn, false, 0, 0), 1084, 2, 0, 1082, 1083),
  ((12, cX12_learn, 14, (some .int), yX12_learn, false, 0, 0), 1117, 5, 0, 1115, 1116),
  ((11, cX11_undo, 1, (some .int), yX11_undo, false, 0, 0), 1133, 2, 0, 1131, 1132),
  ((12, cX12_undo, 1, (some .int), yX12_undo, false, 0, 0), 1137, 5, 0, 1135, 1136),
  ((11, cX11_version, 4, (some .int), yX11_version, false, 0, 0), 1141, 2, 0, 1139, 1140),
  ((12, cX12_version, 5, (some .int), yX12_version, false, 0, 0), 1149, 5, 0, 1147, 1148),
  ((11, cX11_knows, 5, (some .int), yX11_knows, false, 0, 0), 1154, 2, 0, 1152, 1153),
  ((12, cX12_knows, 5, (some .int), yX12_knows, false, 0, 0), 1158, 5, 0, 1156, 1157),
  ((11, cX11_says, 3, (some .int), yX11_says, false, 0, 0), 1162, 2, 0, 1160, 1161),
  ((12, cX12_says, 3, (some .int), yX12_says, false, 0, 0), 1170, 5, 0, 1168, 1169),
  ((11, cX11_stops, 4, (some .int), yX11_stops, false, 0, 0), 1179, 2, 0, 1177, 1178),
  ((12, cX12_stops, 2, (some .int), yX12_stops, false, 0, 0), 1183, 5, 0, 1181, 1182),
  ((11, cX11_apart, 4, (some .int), yX11_apart, false, 0, 0), 1187, 2, 0, 1185, 1186),
  ((11, cX11_part, 3, (some .int), yX11_part, false, 0, 0), 288, 2, 0, 286, 287),
  ((12, cX12_apart, 4, (some .int), yX12_apart, false, 0, 0), 1209, 5, 0, 1207, 1208),
  ((11, cX11_trap, 4, (some .int), yX11_trap, false, 0, 0), 1226, 2, 0, 1224, 1225),
  ((12, cX12_trap, 3, (some .int), yX12_trap, false, 0, 0), 1230, 5, 0, 1228, 1229),
  ((11, cX11_talk, 5, (some .int), yX11_talk, false, 0, 0), 1234, 2, 0, 1232, 1233),
  ((12, cX12_talk, 6, (some .int), yX12_talk, false, 0, 0), 1277, 5, 0, 1275, 1276)]
def rxML2 : List (rx_Mt × Nat × Nat × Nat × Nat × Nat) := [((11, cX11_mends, 5, (some .int), yX11_mends, false, 0, 0), 1295, 2, 0, 1293, 1294),
  ((12, cX12_mends, 9, (some .int), yX12_mends, false, 0, 0), 1309, 5, 0, 1307, 1308),
  ((11, cX11_vote, 4, (some .int), yX11_vote, false, 0, 0), 1313, 2, 0, 1311, 1312),
  ((12, cX12_vote, 6, (some .int), yX12_vote, false, 0, 0), 1332, 5, 0, 1330, 1331),
  ((11, cX11_drift, 3, (some .long), yX11_drift, false, 0, 0), 1340, 2, 0, 1338, 1339),
  ((12, cX12_drift, 6, (some .long), yX12_drift, false, 0, 0), 1348, 5, 0, 1346, 1347),
  ((11, cX11_origin, 5, (some .int), yX11_origin, false, 0, 0), 1353, 2, 0, 1351, 1352),
  ((12, cX12_origin, 4, (some .int), yX12_origin, false, 0, 0), 1365, 5, 0, 1363, 1364),
  ((11, cX11_origins, 9, (some .long), yX11_origins, false, 0, 0), 1377, 2, 0, 1375, 1376),
  ((12, cX12_origins, 12, (some .long), yX12_origins, false, 0, 0), 1396, 5, 0, 1394, 1395),
  ((11, cX11_chain, 4, (some .int), yX11_chain, false, 0, 0), 1401, 2, 0, 1399, 1400),
  ((12, cX12_chain, 8, (some .int), yX12_chain, false, 0, 0), 1434, 5, 0, 1432, 1433),
  ((11, cX11_cast, 2, (some .int), yX11_cast, false, 0, 0), 1458, 2, 0, 1456, 1457),
  ((12, cX12_cast, 2, (some .int), yX12_cast, false, 0, 0), 1497, 5, 0, 1495, 1496),
  ((11, cX11_deed, 4, (some .int), yX11_deed, false, 0, 0), 1520, 2, 0, 1518, 1519),
  ((12, cX12_part, 5, (some .int), yX12_part, false, 0, 0), 305, 5, 0, 303, 304),
  ((12, cX12_deed, 5, (some .int), yX12_deed, false, 0, 0), 1528, 5, 0, 1526, 1527),
  ((11, cX11_forget, 2, (some .int), yX11_forget, false, 0, 0), 1532, 2, 0, 1530, 1531),
  ((12, cX12_forget, 2, (some .int), yX12_forget, false, 0, 0), 1536, 5, 0, 1534, 1535),
  ((11, cX11_judge, 2, (some .int), yX11_judge, false, 0, 0), 1540, 2, 0, 1538, 1539),
  ((12, cX12_judge, 6, (some .int), yX12_judge, false, 0, 0), 1551, 5, 0, 1549, 1550),
  ((11, cX11_rule, 8, (some .int), yX11_rule, false, 0, 0), 320, 2, 0, 318, 319),
  ((11, cX11_least, 3, (some .int), yX11_least, false, 0, 0), 1555, 2, 0, 1553, 1554),
  ((12, cX12_least, 3, (some .int), yX12_least, false, 0, 0), 1605, 5, 0, 1603, 1604),
  ((11, cX11_would, 4, (some .int), yX11_would, false, 0, 0), 1639, 2, 0, 1637, 1638),
  ((12, cX12_would, 3, (some .int), yX12_would, false, 0, 0), 1647, 5, 0, 1645, 1646),
  ((11, cX11_century, 4, (some .int), yX11_century, false, 0, 0), 1651, 2, 0, 1649, 1650),
  ((12, cX12_century, 8, (some .int), yX12_century, false, 0, 0), 1678, 5, 0, 1676, 1677),
  ((11, cX11_drawn, 4, (some .int), yX11_drawn, false, 0, 0), 1692, 2, 0, 1690, 1691),
  ((12, cX12_drawn, 4, (some .int), yX12_drawn, false, 0, 0), 1700, 5, 0, 1698, 1699),
  ((11, cX11_image, 2, (some .int), yX11_image, false, 0, 0), 1704, 2, 0, 1702, 1703),
  ((12, cX12_image, 3, (some .int), yX12_image, false, 0, 0), 1724, 5, 0, 1722, 1723),
  ((11, cX11_back, 2, (some .int), yX11_back, false, 0, 0), 1728, 2, 0, 1726, 1727),
  ((12, cX12_back, 3, (some .int), yX12_back, false, 0, 0), 1732, 5, 0, 1730, 1731),
  ((11, cX11_count, 2, (some .int), yX11_count, false, 0, 0), 1736, 2, 0, 1734, 1735),
  ((12, cX12_count, 2, (some .int), yX12_count, false, 0, 0), 1740, 5, 0, 1738, 1739),
  ((11, cX11_status, 1, (some .int), yX11_status, false, 0, 0), 1746, 2, 0, 1744, 1745),
  ((12, cX12_status, 1, (some .int), yX12_status, false, 0, 0), 1750, 5, 0, 1748, 1749),
  ((12, cX12_rule, 6, (some .int), yX12_rule, false, 0, 0), 343, 5, 0, 341, 342),
  ((11, cX11_hush, 6, (some .int), yX11_hush, false, 0, 0), 370, 2, 0, 368, 369)]
def rxML3 : List (rx_Mt × Nat × Nat × Nat × Nat × Nat) := [((12, cX12_hush, 4, (some .int), yX12_hush, false, 0, 0), 379, 5, 0, 377, 378),
  ((11, cX11_of, 5, (some .int), yX11_of, false, 0, 0), 383, 2, 0, 381, 382),
  ((12, cX12_of, 5, (some .int), yX12_of, false, 0, 0), 394, 5, 0, 392, 393),
  ((11, cX11_stage, 3, (some .int), yX11_stage, false, 0, 0), 404, 2, 0, 402, 403),
  ((12, cX12_stage, 5, (some .int), yX12_stage, false, 0, 0), 416, 5, 0, 414, 415),
  ((11, cX11_person, 4, (some .int), yX11_person, false, 0, 0), 425, 2, 0, 423, 424),
  ((12, cX12_person, 5, (some .int), yX12_person, false, 0, 0), 436, 5, 0, 434, 435),
  ((11, cX11_put, 8, (some .int), yX11_put, false, 0, 0), 442, 2, 0, 440, 441),
  ((12, cX12_put, 7, (some .int), yX12_put, false, 0, 0), 453, 5, 0, 451, 452),
  ((11, cX11_fact, 4, (some .int), yX11_fact, false, 0, 0), 465, 2, 0, 463, 464),
  ((12, cX12_fact, 3, (some .int), yX12_fact, false, 0, 0), 478, 5, 0, 476, 477),
  ((11, cX11_terms, 4, (some .int), yX11_terms, false, 0, 0), 490, 2, 0, 488, 489),
  ((12, cX12_terms, 5, (some .int), yX12_terms, false, 0, 0), 497, 5, 0, 495, 496),
  ((11, cX11_feed, 6, (some .int), yX11_feed, false, 0, 0), 502, 2, 0, 500, 501),
  ((12, cX12_feed, 6, (some .int), yX12_feed, false, 0, 0), 510, 5, 0, 508, 509),
  ((11, cX11_end, 2, (some .int), yX11_end, false, 0, 0), 519, 2, 0, 517, 518),
  ((12, cX12_end, 2, (some .int), yX12_end, false, 0, 0), 523, 5, 0, 521, 522),
  ((11, cX11_row, 5, (some .int), yX11_row, false, 0, 0), 527, 2, 0, 525, 526),
  ((12, cX12_row, 5, (some .int), yX12_row, false, 0, 0), 535, 5, 0, 533, 534),
  ((11, cX11_prattle, 1, (some .int), yX11_prattle, false, 0, 0), 540, 2, 0, 538, 539),
  ((12, cX12_prattle, 1, (some .int), yX12_prattle, false, 0, 0), 544, 5, 0, 542, 543),
  ((11, cX11_play, 3, (some .int), yX11_play, false, 0, 0), 548, 2, 0, 546, 547),
  ((12, cX12_play, 6, (some .int), yX12_play, false, 0, 0), 786, 5, 0, 784, 785),
  ((11, cX11_law, 2, (some .int), yX11_law, false, 0, 0), 946, 2, 0, 944, 945),
  ((12, cX12_law, 3, (some .int), yX12_law, false, 0, 0), 962, 5, 0, 960, 961),
  ((11, cX11_fault, 1, (some .int), yX11_fault, false, 0, 0), 973, 2, 0, 971, 972),
  ((12, cX12_fault, 1, (some .int), yX12_fault, false, 0, 0), 977, 5, 0, 975, 976),
  ((11, cX11_force, 3, (some .int), yX11_force, false, 0, 0), 981, 2, 0, 979, 980),
  ((12, cX12_force, 3, (some .int), yX12_force, false, 0, 0), 989, 5, 0, 987, 988),
  ((11, cX11_asks, 5, (some .int), yX11_asks, false, 0, 0), 993, 2, 0, 991, 992),
  ((12, cX12_asks, 6, (some .int), yX12_asks, false, 0, 0), 1007, 5, 0, 1005, 1006),
  ((11, cX11_cue, 2, (some .int), yX11_cue, false, 0, 0), 1033, 2, 0, 1031, 1032),
  ((12, cX12_cue, 3, (some .int), yX12_cue, false, 0, 0), 1041, 5, 0, 1039, 1040),
  ((11, cX11_still, 2, (some .int), yX11_still, false, 0, 0), 1045, 2, 0, 1043, 1044),
  ((12, cX12_still, 2, (some .int), yX12_still, false, 0, 0), 1049, 5, 0, 1047, 1048),
  ((11, cX11_begin, 4, (some .int), yX11_begin, false, 0, 0), 1053, 2, 0, 1051, 1052),
  ((12, cX12_tell, 2, (some .int), yX12_tell, false, 0, 0), 315, 5, 0, 313, 314),
  ((12, cX12_was, 2, (some .int), yX12_was, false, 0, 0), 366, 5, 0, 364, 365),
  ((12, cX12_isPart, 2, (some .boolean), yX12_isPart, false, 0, 0), 355, 5, 0, 353, 354),
  ((12, cX12_isPerson, 2, (some .boolean), yX12_isPerson, false, 0, 0), 457, 5, 0, 455, 456)]
def rxML4 : List (rx_Mt × Nat × Nat × Nat × Nat × Nat) := [((12, cX12_four, 3, none, yX12_four, false, 0, 0), 515, 5, 0, 513, 514),
  ((12, cX12_next, 1, none, yX12_next, false, 0, 0), 804, 5, 0, 802, 803),
  ((12, cX12_must, 2, none, yX12_must, false, 0, 0), 837, 5, 0, 835, 836),
  ((12, cX12_isWord, 3, (some .boolean), yX12_isWord, false, 0, 0), 833, 5, 0, 831, 832),
  ((12, cX12_begin, 1, none, yX12_begin, false, 0, 0), 799, 5, 0, 797, 798),
  ((12, cX12_beginText, 2, none, yX12_beginText, false, 0, 0), 793, 5, 0, 791, 792),
  ((12, cX12_readLaw, 4, none, yX12_readLaw, false, 0, 0), 966, 5, 0, 964, 965),
  ((12, cX12_endText, 1, none, yX12_endText, false, 0, 0), 922, 5, 0, 920, 921),
  ((12, cX12_isVersion, 2, (some .boolean), yX12_isVersion, false, 0, 0), 1121, 5, 0, 1119, 1120),
  ((12, cX12_isTalk, 4, (some .boolean), yX12_isTalk, false, 0, 0), 1285, 5, 0, 1283, 1284),
  ((12, cX12_keepCast, 5, none, yX12_keepCast, false, 0, 0), 1508, 5, 0, 1506, 1507),
  ((12, cX12_findCast, 3, none, yX12_findCast, false, 0, 0), 1503, 5, 0, 1501, 1502),
  ((12, cX12_meet, 7, none, yX12_meet, false, 0, 0), 1623, 5, 0, 1621, 1622),
  ((12, cX12_findOrder, 4, none, yX12_findOrder, false, 0, 0), 1614, 5, 0, 1612, 1613),
  ((12, cX12_findWays, 6, none, yX12_findWays, false, 0, 0), 1618, 5, 0, 1616, 1617),
  ((12, cX12_findLeast, 4, (some .int), yX12_findLeast, false, 0, 0), 1610, 5, 0, 1608, 1609)]
def rxML : List (rx_Mt × Nat × Nat × Nat × Nat × Nat) := rxML0 ++ rxML1 ++ rxML2 ++ rxML3 ++ rxML4
def rxT : rx_Tb := (fun o i => (rx_lku (rxFrL o) i).map (fun q => q.1), fun o i => (rx_lku (rxCrL o) i).map (fun q => q.1), fun o i => (rx_lku (rxArL o) i).map (fun q => q.1), fun o i => (rx_lku (rxKcL o) i).map (fun q => .inr (q.1, (0, q.2.1))), fun o i => (rx_lku (rxCjL o) i).map (fun q => q.1), fun j => (rxML[j]?).map (fun q => q.1))
