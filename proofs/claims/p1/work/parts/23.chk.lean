/-! the tables are the machine's: checked by the kernel, method by method -/
def xk_tyL : List (Nat → FieldType) := [tyX0, tyX1, tyX2, tyX3, tyX4, tyX5, tyX6, tyX7, tyX8, tyX9]
theorem xk_cls2 {ci : Nat} {q : vw_C} {ty : Nat → FieldType} (h : vwCl[ci]? = some q) (ht : xk_tyL[ci]? = some ty) : xk_C ci q.1 q.2.1 q.2.2 ty := by
  match ci, h, ht with
  | 0, h, ht => cases h; cases ht; exact ⟨rfl, xk_u0, tyX0_ok, nmX0, xk_z0⟩
  | 1, h, ht => cases h; cases ht; exact ⟨rfl, xk_u1, tyX1_ok, nmX1, xk_z1⟩
  | 2, h, ht => cases h; cases ht; exact ⟨rfl, xk_u2, tyX2_ok, nmX2, xk_z2⟩
  | 3, h, ht => cases h; cases ht; exact ⟨rfl, xk_u3, tyX3_ok, nmX3, xk_z3⟩
  | 4, h, ht => cases h; cases ht; exact ⟨rfl, xk_u4, tyX4_ok, nmX4, xk_z4⟩
  | 5, h, ht => cases h; cases ht; exact ⟨rfl, xk_u5, tyX5_ok, nmX5, xk_z5⟩
  | 6, h, ht => cases h; cases ht; exact ⟨rfl, xk_u6, tyX6_ok, nmX6, xk_z6⟩
  | 7, h, ht => cases h; cases ht; exact ⟨rfl, xk_u7, tyX7_ok, nmX7, xk_z7⟩
  | 8, h, ht => cases h; cases ht; exact ⟨rfl, xk_u8, tyX8_ok, nmX8, xk_z8⟩
  | 9, h, ht => cases h; cases ht; exact ⟨rfl, xk_u9, tyX9_ok, nmX9, xk_z9⟩
  | k + 10, h, ht => simp [vwCl] at h
def xk_tcb (tc : Nat) (ty : FieldType) : Bool := match tc, ty with
  | 0, .int => true
  | 1, .boolean => true
  | 2, .long => true
  | 3, .object _ => true
  | 3, .array _ => true
  | _, _ => false
theorem xk_tcb_ok {tc : Nat} {ty : FieldType} (h : xk_tcb tc ty = true) : xk_tc tc ty := by
  unfold xk_tcb at h
  split at h
  · exact Or.inl ⟨rfl, rfl⟩
  · exact Or.inr (Or.inl ⟨rfl, rfl⟩)
  · exact Or.inr (Or.inr (Or.inl ⟨rfl, rfl⟩))
  · exact Or.inr (Or.inr (Or.inr ⟨rfl, Or.inl ⟨_, rfl⟩⟩))
  · exact Or.inr (Or.inr (Or.inr ⟨rfl, Or.inr ⟨_, rfl⟩⟩))
  · cases h
/-! the tables are the machine's: words by their places, then method by method -/
def xo_L : List String := [RX0, RX1, RX2, RX3, RX4, RX5, RX6, RX7, RX8, RX9, "TingDecksLaw", "java/lang/Integer", "java/lang/Math"]
def xo_n (o : Nat) : String := match xo_L[o]? with
  | some s => s
  | none => ""
def xt (ci k : Nat) : String × String × String × Bool := match vwCl[ci]? with
  | some q => q.2.1 k
  | none => ("", "", "", false)
def xk_pl (ws : List Cond) (ps : List Nat) : Bool := decide (ws = ps.filterMap (fun i => lw_tbl[i]?)) && ws.all goodWord
theorem xk_pl_ok {ws : List Cond} {ps : List Nat} (h : xk_pl ws ps = true) : ∀ w ∈ ws, w ∈ xw_T := by
  simp only [xk_pl, Bool.and_eq_true, decide_eq_true_eq] at h
  intro w hw
  refine xw_in ?_ (List.all_eq_true.mp h.2 w hw)
  rw [h.1] at hw
  obtain ⟨i, -, hi⟩ := List.mem_filterMap.mp hw
  exact List.mem_of_getElem? hi
def xk_fw (o : Nat) (q : Nat × Nat × Nat) : Cond := .fieldLink (xo_n o) q.1 (xt q.2.1 q.2.2).1 (xt q.2.1 q.2.2).2.1 (xt q.2.1 q.2.2).2.2.1
def xk_dy (y : Nat) : xd_D := match xd_P[y]? with
  | some d => d
  | none => xd_0
def xk_mw (o : Nat) (q : Nat × Nat) : Cond := .methodLink (xo_n o) q.1 (xk_dy q.2).2.1
def xk_nw (o : Nat) (q : Nat × Nat) : Cond := .classLink (xo_n o) q.1 (xo_n q.2)
def xk_qw (o : Nat) (q : Nat × Nat) : Cond := .constant (xo_n o) q.1 (Int32.ofNat q.2)
def xk_aw (o : Nat) (q : Nat) : Cond := .methodLink (xo_n o) q arraycopyName
def xk_ow (o : Nat) (q : Nat) : Cond := .methodLink (xo_n o) q Lib.objectInit
def xk_hw (q : Nat × Nat × Nat) : Cond := .classLink (xo_n q.1) q.2.1 (xd_ex q.2.2)
def xf_0 : List (Nat × Nat × Nat) := [(9, 0, 0), (15, 0, 1), (18, 0, 2), (21, 0, 3), (24, 0, 4), (35, 0, 5), (38, 0, 6), (41, 0, 7), (44, 0, 8), (47, 0, 10), (51, 0, 11), (54, 0, 12), (57, 0, 13), (60, 0, 9)]
theorem xf_0_ok : ∀ q ∈ xf_0, xk_fw 0 q ∈ xw_T := fun q hq => xk_pl_ok (ws := xf_0.map (xk_fw 0)) (ps := [149, 152, 157, 162, 165, 170, 174, 177, 180, 185, 190, 195, 198, 183]) (by decide +kernel) _ (List.mem_map.mpr ⟨q, hq, rfl⟩)
def xf_1 : List (Nat × Nat × Nat) := [(9, 1, 0), (15, 1, 1), (19, 1, 2), (23, 1, 3), (26, 1, 4), (30, 1, 5), (33, 0, 11), (43, 7, 4), (49, 7, 7), (52, 7, 16)]
theorem xf_1_ok : ∀ q ∈ xf_1, xk_fw 1 q ∈ xw_T := fun q hq => xk_pl_ok (ws := xf_1.map (xk_fw 1)) (ps := [471, 473, 474, 476, 477, 479, 191, 367, 374, 390]) (by decide +kernel) _ (List.mem_map.mpr ⟨q, hq, rfl⟩)
def xf_2 : List (Nat × Nat × Nat) := [(11, 2, 0), (17, 7, 4), (23, 0, 11), (35, 2, 1), (69, 2, 2), (72, 2, 3)]
theorem xf_2_ok : ∀ q ∈ xf_2, xk_fw 2 q ∈ xw_T := fun q hq => xk_pl_ok (ws := xf_2.map (xk_fw 2)) (ps := [450, 366, 189, 451, 452, 454]) (by decide +kernel) _ (List.mem_map.mpr ⟨q, hq, rfl⟩)
def xf_3 : List (Nat × Nat × Nat) := [(14, 3, 0), (20, 3, 1), (29, 3, 2), (33, 3, 4), (36, 3, 5), (43, 6, 4)]
theorem xf_3_ok : ∀ q ∈ xf_3, xk_fw 3 q ∈ xw_T := fun q hq => xk_pl_ok (ws := xf_3.map (xk_fw 3)) (ps := [318, 319, 320, 322, 323, 301]) (by decide +kernel) _ (List.mem_map.mpr ⟨q, hq, rfl⟩)
def xf_4 : List (Nat × Nat × Nat) := [(11, 4, 0), (15, 4, 1)]
theorem xf_4_ok : ∀ q ∈ xf_4, xk_fw 4 q ∈ xw_T := fun q hq => xk_pl_ok (ws := xf_4.map (xk_fw 4)) (ps := [350, 351]) (by decide +kernel) _ (List.mem_map.mpr ⟨q, hq, rfl⟩)
def xf_5 : List (Nat × Nat × Nat) := [(9, 5, 0), (15, 5, 1), (18, 5, 2), (21, 5, 3), (24, 5, 4), (27, 5, 5), (30, 5, 6), (33, 5, 7), (36, 5, 8), (40, 0, 3), (49, 5, 9), (52, 5, 10)]
theorem xf_5_ok : ∀ q ∈ xf_5, xk_fw 5 q ∈ xw_T := fun q hq => xk_pl_ok (ws := xf_5.map (xk_fw 5)) (ps := [239, 242, 245, 246, 247, 248, 250, 252, 254, 163, 257, 259]) (by decide +kernel) _ (List.mem_map.mpr ⟨q, hq, rfl⟩)
def xf_6 : List (Nat × Nat × Nat) := [(9, 6, 0), (21, 6, 1), (25, 6, 2), (28, 6, 3), (34, 6, 4)]
theorem xf_6_ok : ∀ q ∈ xf_6, xk_fw 6 q ∈ xw_T := fun q hq => xk_pl_ok (ws := xf_6.map (xk_fw 6)) (ps := [296, 297, 298, 300, 302]) (by decide +kernel) _ (List.mem_map.mpr ⟨q, hq, rfl⟩)
def xf_7 : List (Nat × Nat × Nat) := [(12, 7, 0), (18, 7, 1), (22, 7, 2), (25, 7, 3), (28, 7, 9), (31, 7, 10), (34, 7, 11), (37, 7, 12), (40, 7, 4), (44, 0, 5), (49, 7, 5), (53, 5, 8), (58, 7, 6), (63, 7, 7), (66, 7, 8), (69, 0, 10), (72, 5, 0), (75, 0, 0), (78, 0, 11), (121, 7, 18), (128, 7, 13), (131, 7, 14), (134, 7, 15), (137, 7, 16), (140, 7, 17), (143, 7, 19), (146, 7, 20)]
theorem xf_7_ok : ∀ q ∈ xf_7, xk_fw 7 q ∈ xw_T := fun q hq => xk_pl_ok (ws := xf_7.map (xk_fw 7)) (ps := [357, 358, 361, 363, 378, 380, 382, 383, 365, 171, 368, 255, 371, 373, 376, 186, 240, 150, 192, 395, 384, 386, 389, 392, 393, 397, 399]) (by decide +kernel) _ (List.mem_map.mpr ⟨q, hq, rfl⟩)
def xf_8 : List (Nat × Nat × Nat) := [(9, 8, 0), (13, 8, 1), (20, 8, 2), (24, 8, 3), (30, 8, 4), (34, 8, 5), (42, 8, 6), (51, 8, 7), (55, 8, 8), (61, 8, 9), (68, 8, 10), (72, 8, 12), (79, 8, 11), (98, 8, 13), (105, 0, 10), (108, 0, 11), (111, 0, 12), (114, 5, 8), (117, 0, 5), (124, 7, 16), (135, 7, 15), (138, 5, 9), (141, 5, 10), (152, 7, 1), (155, 5, 0), (230, 2, 2), (233, 2, 3), (267, 7, 7), (270, 7, 8), (309, 7, 17), (312, 7, 18), (315, 7, 19), (318, 7, 20), (342, 7, 5), (357, 1, 4), (371, 8, 14), (374, 8, 15), (377, 8, 16), (387, 1, 2), (398, 7, 6)]
theorem xf_8_ok : ∀ q ∈ xf_8, xk_fw 8 q ∈ xw_T := fun q hq => xk_pl_ok (ws := xf_8.map (xk_fw 8)) (ps := [501, 502, 503, 504, 505, 506, 507, 508, 509, 510, 511, 513, 512, 514, 187, 193, 197, 256, 172, 391, 388, 258, 260, 360, 241, 453, 455, 375, 377, 394, 396, 398, 400, 370, 478, 515, 516, 517, 475, 372]) (by decide +kernel) _ (List.mem_map.mpr ⟨q, hq, rfl⟩)
def xf_9 : List (Nat × Nat × Nat) := [(7, 9, 1), (13, 9, 4), (16, 9, 5), (19, 9, 6), (22, 9, 7), (25, 9, 8), (28, 9, 9), (31, 9, 10), (35, 9, 11), (38, 9, 12), (41, 9, 13), (44, 9, 14), (47, 9, 15), (50, 9, 16), (53, 9, 17), (56, 9, 20), (59, 9, 21), (62, 9, 39), (65, 9, 40), (68, 9, 41), (71, 9, 42), (74, 9, 43), (77, 9, 44), (80, 9, 45), (83, 9, 46), (86, 9, 47), (89, 9, 48), (92, 9, 49), (96, 9, 50), (99, 9, 52), (102, 9, 53), (105, 9, 54), (108, 9, 55), (111, 9, 56), (114, 9, 57), (117, 9, 58), (120, 9, 59), (123, 9, 60), (126, 9, 61), (129, 9, 62), (132, 9, 70), (135, 9, 71), (138, 9, 75), (141, 9, 80), (144, 9, 81), (147, 9, 82), (150, 9, 0), (153, 9, 18), (160, 9, 22), (163, 9, 23), (170, 9, 25), (173, 9, 29), (177, 9, 27), (180, 9, 28), (183, 9, 24), (193, 9, 26), (206, 9, 19), (223, 9, 35), (274, 9, 34), (277, 9, 31), (287, 9, 30), (299, 9, 33), (305, 9, 32), (315, 9, 2), (318, 9, 3), (325, 9, 51), (328, 9, 74), (331, 9, 77), (362, 9, 63), (365, 9, 64), (368, 9, 65), (371, 9, 66), (374, 9, 67), (377, 9, 68), (380, 9, 69), (449, 9, 72), (452, 9, 73), (474, 9, 76), (481, 9, 78), (484, 9, 79)]
theorem xf_9_ok : ∀ q ∈ xf_9, xk_fw 9 q ∈ xw_T := fun q hq => xk_pl_ok (ws := xf_9.map (xk_fw 9)) (ps := [1341, 1344, 1345, 1346, 1347, 1348, 1349, 1350, 1351, 1352, 1353, 1354, 1355, 1356, 1357, 1360, 1361, 1379, 1380, 1381, 1382, 1383, 1384, 1385, 1386, 1387, 1388, 1389, 1390, 1392, 1393, 1394, 1395, 1396, 1397, 1398, 1399, 1400, 1401, 1402, 1410, 1411, 1415, 1420, 1421, 1422, 1340, 1358, 1362, 1363, 1365, 1369, 1367, 1368, 1364, 1366, 1359, 1375, 1374, 1371, 1370, 1373, 1372, 1342, 1343, 1391, 1414, 1417, 1403, 1404, 1405, 1406, 1407, 1408, 1409, 1412, 1413, 1416, 1418, 1419]) (by decide +kernel) _ (List.mem_map.mpr ⟨q, hq, rfl⟩)
def xf_10 : List (Nat × Nat × Nat) := []
theorem xf_10_ok : ∀ q ∈ xf_10, xk_fw 10 q ∈ xw_T := fun q hq => xk_pl_ok (ws := xf_10.map (xk_fw 10)) (ps := []) (by decide +kernel) _ (List.mem_map.mpr ⟨q, hq, rfl⟩)
def xf_11 : List (Nat × Nat × Nat) := []
theorem xf_11_ok : ∀ q ∈ xf_11, xk_fw 11 q ∈ xw_T := fun q hq => xk_pl_ok (ws := xf_11.map (xk_fw 11)) (ps := []) (by decide +kernel) _ (List.mem_map.mpr ⟨q, hq, rfl⟩)
def xf_12 : List (Nat × Nat × Nat) := []
theorem xf_12_ok : ∀ q ∈ xf_12, xk_fw 12 q ∈ xw_T := fun q hq => xk_pl_ok (ws := xf_12.map (xk_fw 12)) (ps := []) (by decide +kernel) _ (List.mem_map.mpr ⟨q, hq, rfl⟩)
def xf (o : Nat) : List (Nat × Nat × Nat) := match o with
  | 0 => xf_0
  | 1 => xf_1
  | 2 => xf_2
  | 3 => xf_3
  | 4 => xf_4
  | 5 => xf_5
  | 6 => xf_6
  | 7 => xf_7
  | 8 => xf_8
  | 9 => xf_9
  | 10 => xf_10
  | 11 => xf_11
  | 12 => xf_12
  | _ => []
theorem xf_ok (o : Nat) (q : (Nat × Nat × Nat)) (h : q ∈ xf o) : xk_fw o q ∈ xw_T := match o, h with
  | 0, h => xf_0_ok q h
  | 1, h => xf_1_ok q h
  | 2, h => xf_2_ok q h
  | 3, h => xf_3_ok q h
  | 4, h => xf_4_ok q h
  | 5, h => xf_5_ok q h
  | 6, h => xf_6_ok q h
  | 7, h => xf_7_ok q h
  | 8, h => xf_8_ok q h
  | 9, h => xf_9_ok q h
  | 10, h => xf_10_ok q h
  | 11, h => xf_11_ok q h
  | 12, h => xf_12_ok q h
  | _ + 13, h => absurd h List.not_mem_nil
def xj_0 : List (Nat × Nat) := []
theorem xj_0_ok : ∀ q ∈ xj_0, xk_mw 0 q ∈ xw_T := fun q hq => xk_pl_ok (ws := xj_0.map (xk_mw 0)) (ps := []) (by decide +kernel) _ (List.mem_map.mpr ⟨q, hq, rfl⟩)
def xj_1 : List (Nat × Nat) := []
theorem xj_1_ok : ∀ q ∈ xj_1, xk_mw 1 q ∈ xw_T := fun q hq => xk_pl_ok (ws := xj_1.map (xk_mw 1)) (ps := []) (by decide +kernel) _ (List.mem_map.mpr ⟨q, hq, rfl⟩)
def xj_2 : List (Nat × Nat) := [(37, 12), (44, 11)]
theorem xj_2_ok : ∀ q ∈ xj_2, xk_mw 2 q ∈ xw_T := fun q hq => xk_pl_ok (ws := xj_2.map (xk_mw 2)) (ps := [1115, 1122]) (by decide +kernel) _ (List.mem_map.mpr ⟨q, hq, rfl⟩)
def xj_3 : List (Nat × Nat) := [(11, 23), (24, 3), (39, 72)]
theorem xj_3_ok : ∀ q ∈ xj_3, xk_mw 3 q ∈ xw_T := fun q hq => xk_pl_ok (ws := xj_3.map (xk_mw 3)) (ps := [292, 788, 793]) (by decide +kernel) _ (List.mem_map.mpr ⟨q, hq, rfl⟩)
def xj_4 : List (Nat × Nat) := []
theorem xj_4_ok : ∀ q ∈ xj_4, xk_mw 4 q ∈ xw_T := fun q hq => xk_pl_ok (ws := xj_4.map (xk_mw 4)) (ps := []) (by decide +kernel) _ (List.mem_map.mpr ⟨q, hq, rfl⟩)
def xj_5 : List (Nat × Nat) := []
theorem xj_5_ok : ∀ q ∈ xj_5, xk_mw 5 q ∈ xw_T := fun q hq => xk_pl_ok (ws := xj_5.map (xk_mw 5)) (ps := []) (by decide +kernel) _ (List.mem_map.mpr ⟨q, hq, rfl⟩)
def xj_6 : List (Nat × Nat) := [(31, 22)]
theorem xj_6_ok : ∀ q ∈ xj_6, xk_mw 6 q ∈ xw_T := fun q hq => xk_pl_ok (ws := xj_6.map (xk_mw 6)) (ps := [798]) (by decide +kernel) _ (List.mem_map.mpr ⟨q, hq, rfl⟩)
def xj_7 : List (Nat × Nat) := [(59, 1), (115, 27), (118, 30)]
theorem xj_7_ok : ∀ q ∈ xj_7, xk_mw 7 q ∈ xw_T := fun q hq => xk_pl_ok (ws := xj_7.map (xk_mw 7)) (ps := [601, 639, 643]) (by decide +kernel) _ (List.mem_map.mpr ⟨q, hq, rfl⟩)
def xj_8 : List (Nat × Nat) := [(19, 2), (39, 71), (48, 73), (76, 21), (82, 41), (93, 110), (102, 43), (120, 116), (127, 16), (131, 40), (149, 34), (158, 5), (162, 4), (167, 33), (190, 35), (208, 31), (211, 19), (219, 39), (226, 114), (238, 113), (241, 74), (245, 29), (248, 75), (254, 1), (257, 26), (260, 77), (264, 32), (273, 25), (289, 20), (292, 38), (303, 24), (321, 28), (324, 0), (336, 14), (345, 115), (353, 10), (361, 17), (380, 70), (384, 7), (390, 9), (394, 6)]
theorem xj_8_ok : ∀ q ∈ xj_8, xk_mw 8 q ∈ xw_T := fun q hq => xk_pl_ok (ws := xj_8.map (xk_mw 8)) (ps := [136, 286, 340, 494, 557, 784, 577, 682, 670, 674, 1020, 1025, 1029, 1041, 1054, 1075, 573, 569, 1105, 593, 597, 1149, 635, 1161, 1162, 1163, 1174, 686, 1206, 1217, 1246, 1259, 1221, 1283, 1306, 1323, 702, 1109, 1310, 1315, 1319]) (by decide +kernel) _ (List.mem_map.mpr ⟨q, hq, rfl⟩)
def xj_9 : List (Nat × Nat) := [(156, 59), (166, 48), (209, 57), (213, 91), (308, 65), (321, 49), (334, 46), (353, 99), (383, 61), (389, 128), (393, 51), (396, 50), (399, 155), (402, 174), (405, 54), (408, 69), (412, 180), (415, 94), (418, 95), (424, 93), (427, 96), (430, 63), (433, 58), (440, 60), (446, 185), (457, 45), (460, 176), (463, 66), (467, 62), (471, 56)]
theorem xj_9_ok : ∀ q ∈ xj_9, xk_mw 9 q ∈ xw_T := fun q hq => xk_pl_ok (ws := xj_9.map (xk_mw 9)) (ps := [1599, 1615, 1625, 1611, 1607, 1718, 1753, 1787, 1757, 1749, 1795, 1741, 1745, 1737, 1803, 1734, 1799, 1811, 1815, 1827, 1843, 1859, 1863, 1883, 1900, 1948, 1952, 1956, 1961, 1980]) (by decide +kernel) _ (List.mem_map.mpr ⟨q, hq, rfl⟩)
def xj_10 : List (Nat × Nat) := [(7, 137), (15, 139), (20, 148), (24, 86), (27, 85), (30, 88), (33, 152), (36, 81), (39, 87), (43, 145), (46, 138), (49, 111), (52, 140), (55, 150), (58, 143), (61, 135), (64, 80), (67, 141), (70, 79), (73, 117), (76, 151), (79, 149), (82, 147), (85, 76), (88, 89), (91, 83), (95, 144), (99, 112), (102, 55), (103, 78), (107, 90), (108, 160), (113, 118), (114, 67), (118, 36), (121, 52), (122, 162), (124, 184), (125, 169), (128, 130), (129, 106), (131, 127), (132, 105), (134, 126), (135, 108), (137, 131), (138, 173), (140, 158), (141, 103), (143, 123), (144, 107), (147, 129), (148, 84), (152, 97), (153, 44), (156, 68), (157, 167), (159, 125), (160, 161), (162, 186), (163, 136), (166, 47), (167, 133), (169, 183), (170, 163), (172, 177), (173, 171), (175, 182), (176, 142), (179, 178), (180, 165), (182, 154), (183, 159), (185, 153), (186, 102), (188, 122), (189, 37), (192, 53), (193, 164), (195, 120), (196, 101), (198, 121), (199, 134), (201, 175), (202, 172), (204, 157), (205, 170), (207, 156), (208, 168), (210, 98), (211, 100), (213, 119), (214, 109), (216, 132), (217, 146), (220, 181), (221, 104), (223, 124), (224, 166), (226, 179), (227, 82), (230, 92), (231, 42), (235, 64)]
theorem xj_10_ok : ∀ q ∈ xj_10, xk_mw 10 q ∈ xw_T := fun q hq => xk_pl_ok (ws := xj_10.map (xk_mw 10)) (ps := [714, 993, 1016, 1037, 1050, 1062, 1070, 1082, 1089, 1101, 1137, 1145, 1156, 1170, 1181, 1190, 1202, 1213, 1230, 1241, 1255, 1266, 1278, 1287, 1295, 1302, 1330, 128, 1336, 553, 1595, 710, 1603, 1591, 561, 1722, 989, 1730, 1013, 1807, 1034, 1823, 1047, 1831, 1059, 1835, 1067, 1839, 1079, 1855, 1086, 1867, 565, 1875, 581, 1726, 1098, 1879, 1134, 1896, 589, 1904, 1142, 1908, 1153, 1912, 1167, 1916, 678, 1920, 1178, 1928, 1187, 1932, 1199, 1968, 690, 1972, 1210, 1976, 1227, 1984, 1238, 1988, 1252, 1847, 1263, 1851, 1275, 1892, 1284, 1936, 1292, 1940, 694, 1924, 1299, 1944, 1327, 1964, 698, 1997, 706, 2001]) (by decide +kernel) _ (List.mem_map.mpr ⟨q, hq, rfl⟩)
def xj_11 : List (Nat × Nat) := []
theorem xj_11_ok : ∀ q ∈ xj_11, xk_mw 11 q ∈ xw_T := fun q hq => xk_pl_ok (ws := xj_11.map (xk_mw 11)) (ps := []) (by decide +kernel) _ (List.mem_map.mpr ⟨q, hq, rfl⟩)
def xj_12 : List (Nat × Nat) := []
theorem xj_12_ok : ∀ q ∈ xj_12, xk_mw 12 q ∈ xw_T := fun q hq => xk_pl_ok (ws := xj_12.map (xk_mw 12)) (ps := []) (by decide +kernel) _ (List.mem_map.mpr ⟨q, hq, rfl⟩)
def xj (o : Nat) : List (Nat × Nat) := match o with
  | 0 => xj_0
  | 1 => xj_1
  | 2 => xj_2
  | 3 => xj_3
  | 4 => xj_4
  | 5 => xj_5
  | 6 => xj_6
  | 7 => xj_7
  | 8 => xj_8
  | 9 => xj_9
  | 10 => xj_10
  | 11 => xj_11
  | 12 => xj_12
  | _ => []
theorem xj_ok (o : Nat) (q : (Nat × Nat)) (h : q ∈ xj o) : xk_mw o q ∈ xw_T := match o, h with
  | 0, h => xj_0_ok q h
  | 1, h => xj_1_ok q h
  | 2, h => xj_2_ok q h
  | 3, h => xj_3_ok q h
  | 4, h => xj_4_ok q h
  | 5, h => xj_5_ok q h
  | 6, h => xj_6_ok q h
  | 7, h => xj_7_ok q h
  | 8, h => xj_8_ok q h
  | 9, h => xj_9_ok q h
  | 10, h => xj_10_ok q h
  | 11, h => xj_11_ok q h
  | 12, h => xj_12_ok q h
  | _ + 13, h => absurd h List.not_mem_nil
def xn_0 : List (Nat × Nat) := []
theorem xn_0_ok : ∀ q ∈ xn_0, xk_nw 0 q ∈ xw_T := fun q hq => xk_pl_ok (ws := xn_0.map (xk_nw 0)) (ps := []) (by decide +kernel) _ (List.mem_map.mpr ⟨q, hq, rfl⟩)
def xn_1 : List (Nat × Nat) := []
theorem xn_1_ok : ∀ q ∈ xn_1, xk_nw 1 q ∈ xw_T := fun q hq => xk_pl_ok (ws := xn_1.map (xk_nw 1)) (ps := []) (by decide +kernel) _ (List.mem_map.mpr ⟨q, hq, rfl⟩)
def xn_2 : List (Nat × Nat) := []
theorem xn_2_ok : ∀ q ∈ xn_2, xk_nw 2 q ∈ xw_T := fun q hq => xk_pl_ok (ws := xn_2.map (xk_nw 2)) (ps := []) (by decide +kernel) _ (List.mem_map.mpr ⟨q, hq, rfl⟩)
def xn_3 : List (Nat × Nat) := [(9, 6)]
theorem xn_3_ok : ∀ q ∈ xn_3, xk_nw 3 q ∈ xw_T := fun q hq => xk_pl_ok (ws := xn_3.map (xk_nw 3)) (ps := [290]) (by decide +kernel) _ (List.mem_map.mpr ⟨q, hq, rfl⟩)
def xn_4 : List (Nat × Nat) := []
theorem xn_4_ok : ∀ q ∈ xn_4, xk_nw 4 q ∈ xw_T := fun q hq => xk_pl_ok (ws := xn_4.map (xk_nw 4)) (ps := []) (by decide +kernel) _ (List.mem_map.mpr ⟨q, hq, rfl⟩)
def xn_5 : List (Nat × Nat) := []
theorem xn_5_ok : ∀ q ∈ xn_5, xk_nw 5 q ∈ xw_T := fun q hq => xk_pl_ok (ws := xn_5.map (xk_nw 5)) (ps := []) (by decide +kernel) _ (List.mem_map.mpr ⟨q, hq, rfl⟩)
def xn_6 : List (Nat × Nat) := []
theorem xn_6_ok : ∀ q ∈ xn_6, xk_nw 6 q ∈ xw_T := fun q hq => xk_pl_ok (ws := xn_6.map (xk_nw 6)) (ps := []) (by decide +kernel) _ (List.mem_map.mpr ⟨q, hq, rfl⟩)
def xn_7 : List (Nat × Nat) := [(9, 4)]
theorem xn_7_ok : ∀ q ∈ xn_7, xk_nw 7 q ∈ xw_T := fun q hq => xk_pl_ok (ws := xn_7.map (xk_nw 7)) (ps := [344]) (by decide +kernel) _ (List.mem_map.mpr ⟨q, hq, rfl⟩)
def xn_8 : List (Nat × Nat) := [(17, 0), (27, 5), (37, 3), (46, 7), (58, 2), (65, 1)]
theorem xn_8_ok : ∀ q ∈ xn_8, xk_nw 8 q ∈ xw_T := fun q hq => xk_pl_ok (ws := xn_8.map (xk_nw 8)) (ps := [134, 233, 284, 338, 444, 465]) (by decide +kernel) _ (List.mem_map.mpr ⟨q, hq, rfl⟩)
def xn_9 : List (Nat × Nat) := []
theorem xn_9_ok : ∀ q ∈ xn_9, xk_nw 9 q ∈ xw_T := fun q hq => xk_pl_ok (ws := xn_9.map (xk_nw 9)) (ps := []) (by decide +kernel) _ (List.mem_map.mpr ⟨q, hq, rfl⟩)
def xn_10 : List (Nat × Nat) := [(8, 8), (100, 9)]
theorem xn_10_ok : ∀ q ∈ xn_10, xk_nw 10 q ∈ xw_T := fun q hq => xk_pl_ok (ws := xn_10.map (xk_nw 10)) (ps := [126, 1334]) (by decide +kernel) _ (List.mem_map.mpr ⟨q, hq, rfl⟩)
def xn_11 : List (Nat × Nat) := []
theorem xn_11_ok : ∀ q ∈ xn_11, xk_nw 11 q ∈ xw_T := fun q hq => xk_pl_ok (ws := xn_11.map (xk_nw 11)) (ps := []) (by decide +kernel) _ (List.mem_map.mpr ⟨q, hq, rfl⟩)
def xn_12 : List (Nat × Nat) := []
theorem xn_12_ok : ∀ q ∈ xn_12, xk_nw 12 q ∈ xw_T := fun q hq => xk_pl_ok (ws := xn_12.map (xk_nw 12)) (ps := []) (by decide +kernel) _ (List.mem_map.mpr ⟨q, hq, rfl⟩)
def xn (o : Nat) : List (Nat × Nat) := match o with
  | 0 => xn_0
  | 1 => xn_1
  | 2 => xn_2
  | 3 => xn_3
  | 4 => xn_4
  | 5 => xn_5
  | 6 => xn_6
  | 7 => xn_7
  | 8 => xn_8
  | 9 => xn_9
  | 10 => xn_10
  | 11 => xn_11
  | 12 => xn_12
  | _ => []
theorem xn_ok (o : Nat) (q : (Nat × Nat)) (h : q ∈ xn o) : xk_nw o q ∈ xw_T := match o, h with
  | 0, h => xn_0_ok q h
  | 1, h => xn_1_ok q h
  | 2, h => xn_2_ok q h
  | 3, h => xn_3_ok q h
  | 4, h => xn_4_ok q h
  | 5, h => xn_5_ok q h
  | 6, h => xn_6_ok q h
  | 7, h => xn_7_ok q h
  | 8, h => xn_8_ok q h
  | 9, h => xn_9_ok q h
  | 10, h => xn_10_ok q h
  | 11, h => xn_11_ok q h
  | 12, h => xn_12_ok q h
  | _ + 13, h => absurd h List.not_mem_nil
def xq_0 : List (Nat × Nat) := []
theorem xq_0_ok : ∀ q ∈ xq_0, xk_qw 0 q ∈ xw_T := fun q hq => xk_pl_ok (ws := xq_0.map (xk_qw 0)) (ps := []) (by decide +kernel) _ (List.mem_map.mpr ⟨q, hq, rfl⟩)
def xq_1 : List (Nat × Nat) := []
theorem xq_1_ok : ∀ q ∈ xq_1, xk_qw 1 q ∈ xw_T := fun q hq => xk_pl_ok (ws := xq_1.map (xk_qw 1)) (ps := []) (by decide +kernel) _ (List.mem_map.mpr ⟨q, hq, rfl⟩)
def xq_2 : List (Nat × Nat) := [(36, 2147483647)]
theorem xq_2_ok : ∀ q ∈ xq_2, xk_qw 2 q ∈ xw_T := fun q hq => xk_pl_ok (ws := xq_2.map (xk_qw 2)) (ps := [1114]) (by decide +kernel) _ (List.mem_map.mpr ⟨q, hq, rfl⟩)
def xq_3 : List (Nat × Nat) := []
theorem xq_3_ok : ∀ q ∈ xq_3, xk_qw 3 q ∈ xw_T := fun q hq => xk_pl_ok (ws := xq_3.map (xk_qw 3)) (ps := []) (by decide +kernel) _ (List.mem_map.mpr ⟨q, hq, rfl⟩)
def xq_4 : List (Nat × Nat) := []
theorem xq_4_ok : ∀ q ∈ xq_4, xk_qw 4 q ∈ xw_T := fun q hq => xk_pl_ok (ws := xq_4.map (xk_qw 4)) (ps := []) (by decide +kernel) _ (List.mem_map.mpr ⟨q, hq, rfl⟩)
def xq_5 : List (Nat × Nat) := []
theorem xq_5_ok : ∀ q ∈ xq_5, xk_qw 5 q ∈ xw_T := fun q hq => xk_pl_ok (ws := xq_5.map (xk_qw 5)) (ps := []) (by decide +kernel) _ (List.mem_map.mpr ⟨q, hq, rfl⟩)
def xq_6 : List (Nat × Nat) := []
theorem xq_6_ok : ∀ q ∈ xq_6, xk_qw 6 q ∈ xw_T := fun q hq => xk_pl_ok (ws := xq_6.map (xk_qw 6)) (ps := []) (by decide +kernel) _ (List.mem_map.mpr ⟨q, hq, rfl⟩)
def xq_7 : List (Nat × Nat) := []
theorem xq_7_ok : ∀ q ∈ xq_7, xk_qw 7 q ∈ xw_T := fun q hq => xk_pl_ok (ws := xq_7.map (xk_qw 7)) (ps := []) (by decide +kernel) _ (List.mem_map.mpr ⟨q, hq, rfl⟩)
def xq_8 : List (Nat × Nat) := []
theorem xq_8_ok : ∀ q ∈ xq_8, xk_qw 8 q ∈ xw_T := fun q hq => xk_pl_ok (ws := xq_8.map (xk_qw 8)) (ps := []) (by decide +kernel) _ (List.mem_map.mpr ⟨q, hq, rfl⟩)
def xq_9 : List (Nat × Nat) := []
theorem xq_9_ok : ∀ q ∈ xq_9, xk_qw 9 q ∈ xw_T := fun q hq => xk_pl_ok (ws := xq_9.map (xk_qw 9)) (ps := []) (by decide +kernel) _ (List.mem_map.mpr ⟨q, hq, rfl⟩)
def xq_10 : List (Nat × Nat) := []
theorem xq_10_ok : ∀ q ∈ xq_10, xk_qw 10 q ∈ xw_T := fun q hq => xk_pl_ok (ws := xq_10.map (xk_qw 10)) (ps := []) (by decide +kernel) _ (List.mem_map.mpr ⟨q, hq, rfl⟩)
def xq_11 : List (Nat × Nat) := [(265, 1431655765), (266, 858993459), (267, 252645135)]
theorem xq_11_ok : ∀ q ∈ xq_11, xk_qw 11 q ∈ xw_T := fun q hq => xk_pl_ok (ws := xq_11.map (xk_qw 11)) (ps := [1224, 1225, 1226]) (by decide +kernel) _ (List.mem_map.mpr ⟨q, hq, rfl⟩)
def xq_12 : List (Nat × Nat) := []
theorem xq_12_ok : ∀ q ∈ xq_12, xk_qw 12 q ∈ xw_T := fun q hq => xk_pl_ok (ws := xq_12.map (xk_qw 12)) (ps := []) (by decide +kernel) _ (List.mem_map.mpr ⟨q, hq, rfl⟩)
def xq (o : Nat) : List (Nat × Nat) := match o with
  | 0 => xq_0
  | 1 => xq_1
  | 2 => xq_2
  | 3 => xq_3
  | 4 => xq_4
  | 5 => xq_5
  | 6 => xq_6
  | 7 => xq_7
  | 8 => xq_8
  | 9 => xq_9
  | 10 => xq_10
  | 11 => xq_11
  | 12 => xq_12
  | _ => []
theorem xq_ok (o : Nat) (q : (Nat × Nat)) (h : q ∈ xq o) : xk_qw o q ∈ xw_T := match o, h with
  | 0, h => xq_0_ok q h
  | 1, h => xq_1_ok q h
  | 2, h => xq_2_ok q h
  | 3, h => xq_3_ok q h
  | 4, h => xq_4_ok q h
  | 5, h => xq_5_ok q h
  | 6, h => xq_6_ok q h
  | 7, h => xq_7_ok q h
  | 8, h => xq_8_ok q h
  | 9, h => xq_9_ok q h
  | 10, h => xq_10_ok q h
  | 11, h => xq_11_ok q h
  | 12, h => xq_12_ok q h
  | _ + 13, h => absurd h List.not_mem_nil
def xa_0 : List Nat := [63]
theorem xa_0_ok : ∀ q ∈ xa_0, xk_aw 0 q ∈ xw_T := fun q hq => xk_pl_ok (ws := xa_0.map (xk_aw 0)) (ps := [792]) (by decide +kernel) _ (List.mem_map.mpr ⟨q, hq, rfl⟩)
def xa_1 : List Nat := []
theorem xa_1_ok : ∀ q ∈ xa_1, xk_aw 1 q ∈ xw_T := fun q hq => xk_pl_ok (ws := xa_1.map (xk_aw 1)) (ps := []) (by decide +kernel) _ (List.mem_map.mpr ⟨q, hq, rfl⟩)
def xa_2 : List Nat := []
theorem xa_2_ok : ∀ q ∈ xa_2, xk_aw 2 q ∈ xw_T := fun q hq => xk_pl_ok (ws := xa_2.map (xk_aw 2)) (ps := []) (by decide +kernel) _ (List.mem_map.mpr ⟨q, hq, rfl⟩)
def xa_3 : List Nat := []
theorem xa_3_ok : ∀ q ∈ xa_3, xk_aw 3 q ∈ xw_T := fun q hq => xk_pl_ok (ws := xa_3.map (xk_aw 3)) (ps := []) (by decide +kernel) _ (List.mem_map.mpr ⟨q, hq, rfl⟩)
def xa_4 : List Nat := []
theorem xa_4_ok : ∀ q ∈ xa_4, xk_aw 4 q ∈ xw_T := fun q hq => xk_pl_ok (ws := xa_4.map (xk_aw 4)) (ps := []) (by decide +kernel) _ (List.mem_map.mpr ⟨q, hq, rfl⟩)
def xa_5 : List Nat := [43]
theorem xa_5_ok : ∀ q ∈ xa_5, xk_aw 5 q ∈ xw_T := fun q hq => xk_pl_ok (ws := xa_5.map (xk_aw 5)) (ps := [498]) (by decide +kernel) _ (List.mem_map.mpr ⟨q, hq, rfl⟩)
def xa_6 : List Nat := []
theorem xa_6_ok : ∀ q ∈ xa_6, xk_aw 6 q ∈ xw_T := fun q hq => xk_pl_ok (ws := xa_6.map (xk_aw 6)) (ps := []) (by decide +kernel) _ (List.mem_map.mpr ⟨q, hq, rfl⟩)
def xa_7 : List Nat := []
theorem xa_7_ok : ∀ q ∈ xa_7, xk_aw 7 q ∈ xw_T := fun q hq => xk_pl_ok (ws := xa_7.map (xk_aw 7)) (ps := []) (by decide +kernel) _ (List.mem_map.mpr ⟨q, hq, rfl⟩)
def xa_8 : List Nat := []
theorem xa_8_ok : ∀ q ∈ xa_8, xk_aw 8 q ∈ xw_T := fun q hq => xk_pl_ok (ws := xa_8.map (xk_aw 8)) (ps := []) (by decide +kernel) _ (List.mem_map.mpr ⟨q, hq, rfl⟩)
def xa_9 : List Nat := []
theorem xa_9_ok : ∀ q ∈ xa_9, xk_aw 9 q ∈ xw_T := fun q hq => xk_pl_ok (ws := xa_9.map (xk_aw 9)) (ps := []) (by decide +kernel) _ (List.mem_map.mpr ⟨q, hq, rfl⟩)
def xa_10 : List Nat := []
theorem xa_10_ok : ∀ q ∈ xa_10, xk_aw 10 q ∈ xw_T := fun q hq => xk_pl_ok (ws := xa_10.map (xk_aw 10)) (ps := []) (by decide +kernel) _ (List.mem_map.mpr ⟨q, hq, rfl⟩)
def xa_11 : List Nat := []
theorem xa_11_ok : ∀ q ∈ xa_11, xk_aw 11 q ∈ xw_T := fun q hq => xk_pl_ok (ws := xa_11.map (xk_aw 11)) (ps := []) (by decide +kernel) _ (List.mem_map.mpr ⟨q, hq, rfl⟩)
def xa_12 : List Nat := []
theorem xa_12_ok : ∀ q ∈ xa_12, xk_aw 12 q ∈ xw_T := fun q hq => xk_pl_ok (ws := xa_12.map (xk_aw 12)) (ps := []) (by decide +kernel) _ (List.mem_map.mpr ⟨q, hq, rfl⟩)
def xa (o : Nat) : List Nat := match o with
  | 0 => xa_0
  | 1 => xa_1
  | 2 => xa_2
  | 3 => xa_3
  | 4 => xa_4
  | 5 => xa_5
  | 6 => xa_6
  | 7 => xa_7
  | 8 => xa_8
  | 9 => xa_9
  | 10 => xa_10
  | 11 => xa_11
  | 12 => xa_12
  | _ => []
theorem xa_ok (o : Nat) (q : Nat) (h : q ∈ xa o) : xk_aw o q ∈ xw_T := match o, h with
  | 0, h => xa_0_ok q h
  | 1, h => xa_1_ok q h
  | 2, h => xa_2_ok q h
  | 3, h => xa_3_ok q h
  | 4, h => xa_4_ok q h
  | 5, h => xa_5_ok q h
  | 6, h => xa_6_ok q h
  | 7, h => xa_7_ok q h
  | 8, h => xa_8_ok q h
  | 9, h => xa_9_ok q h
  | 10, h => xa_10_ok q h
  | 11, h => xa_11_ok q h
  | 12, h => xa_12_ok q h
  | _ + 13, h => absurd h List.not_mem_nil
def xi_0 : List Nat := [3]
theorem xi_0_ok : ∀ q ∈ xi_0, xk_ow 0 q ∈ xw_T := fun q hq => xk_pl_ok (ws := xi_0.map (xk_ow 0)) (ps := [139]) (by decide +kernel) _ (List.mem_map.mpr ⟨q, hq, rfl⟩)
def xi_1 : List Nat := [3]
theorem xi_1_ok : ∀ q ∈ xi_1, xk_ow 1 q ∈ xw_T := fun q hq => xk_pl_ok (ws := xi_1.map (xk_ow 1)) (ps := [470]) (by decide +kernel) _ (List.mem_map.mpr ⟨q, hq, rfl⟩)
def xi_2 : List Nat := [5]
theorem xi_2_ok : ∀ q ∈ xi_2, xk_ow 2 q ∈ xw_T := fun q hq => xk_pl_ok (ws := xi_2.map (xk_ow 2)) (ps := [449]) (by decide +kernel) _ (List.mem_map.mpr ⟨q, hq, rfl⟩)
def xi_3 : List Nat := [3]
theorem xi_3_ok : ∀ q ∈ xi_3, xk_ow 3 q ∈ xw_T := fun q hq => xk_pl_ok (ws := xi_3.map (xk_ow 3)) (ps := [289]) (by decide +kernel) _ (List.mem_map.mpr ⟨q, hq, rfl⟩)
def xi_4 : List Nat := [3]
theorem xi_4_ok : ∀ q ∈ xi_4, xk_ow 4 q ∈ xw_T := fun q hq => xk_pl_ok (ws := xi_4.map (xk_ow 4)) (ps := [349]) (by decide +kernel) _ (List.mem_map.mpr ⟨q, hq, rfl⟩)
def xi_5 : List Nat := [3]
theorem xi_5_ok : ∀ q ∈ xi_5, xk_ow 5 q ∈ xw_T := fun q hq => xk_pl_ok (ws := xi_5.map (xk_ow 5)) (ps := [238]) (by decide +kernel) _ (List.mem_map.mpr ⟨q, hq, rfl⟩)
def xi_6 : List Nat := [3]
theorem xi_6_ok : ∀ q ∈ xi_6, xk_ow 6 q ∈ xw_T := fun q hq => xk_pl_ok (ws := xi_6.map (xk_ow 6)) (ps := [295]) (by decide +kernel) _ (List.mem_map.mpr ⟨q, hq, rfl⟩)
def xi_7 : List Nat := [3]
theorem xi_7_ok : ∀ q ∈ xi_7, xk_ow 7 q ∈ xw_T := fun q hq => xk_pl_ok (ws := xi_7.map (xk_ow 7)) (ps := [343]) (by decide +kernel) _ (List.mem_map.mpr ⟨q, hq, rfl⟩)
def xi_8 : List Nat := [1]
theorem xi_8_ok : ∀ q ∈ xi_8, xk_ow 8 q ∈ xw_T := fun q hq => xk_pl_ok (ws := xi_8.map (xk_ow 8)) (ps := [131]) (by decide +kernel) _ (List.mem_map.mpr ⟨q, hq, rfl⟩)
def xi_9 : List Nat := [1]
theorem xi_9_ok : ∀ q ∈ xi_9, xk_ow 9 q ∈ xw_T := fun q hq => xk_pl_ok (ws := xi_9.map (xk_ow 9)) (ps := [1339]) (by decide +kernel) _ (List.mem_map.mpr ⟨q, hq, rfl⟩)
def xi_10 : List Nat := []
theorem xi_10_ok : ∀ q ∈ xi_10, xk_ow 10 q ∈ xw_T := fun q hq => xk_pl_ok (ws := xi_10.map (xk_ow 10)) (ps := []) (by decide +kernel) _ (List.mem_map.mpr ⟨q, hq, rfl⟩)
def xi_11 : List Nat := []
theorem xi_11_ok : ∀ q ∈ xi_11, xk_ow 11 q ∈ xw_T := fun q hq => xk_pl_ok (ws := xi_11.map (xk_ow 11)) (ps := []) (by decide +kernel) _ (List.mem_map.mpr ⟨q, hq, rfl⟩)
def xi_12 : List Nat := []
theorem xi_12_ok : ∀ q ∈ xi_12, xk_ow 12 q ∈ xw_T := fun q hq => xk_pl_ok (ws := xi_12.map (xk_ow 12)) (ps := []) (by decide +kernel) _ (List.mem_map.mpr ⟨q, hq, rfl⟩)
def xi (o : Nat) : List Nat := match o with
  | 0 => xi_0
  | 1 => xi_1
  | 2 => xi_2
  | 3 => xi_3
  | 4 => xi_4
  | 5 => xi_5
  | 6 => xi_6
  | 7 => xi_7
  | 8 => xi_8
  | 9 => xi_9
  | 10 => xi_10
  | 11 => xi_11
  | 12 => xi_12
  | _ => []
theorem xi_ok (o : Nat) (q : Nat) (h : q ∈ xi o) : xk_ow o q ∈ xw_T := match o, h with
  | 0, h => xi_0_ok q h
  | 1, h => xi_1_ok q h
  | 2, h => xi_2_ok q h
  | 3, h => xi_3_ok q h
  | 4, h => xi_4_ok q h
  | 5, h => xi_5_ok q h
  | 6, h => xi_6_ok q h
  | 7, h => xi_7_ok q h
  | 8, h => xi_8_ok q h
  | 9, h => xi_9_ok q h
  | 10, h => xi_10_ok q h
  | 11, h => xi_11_ok q h
  | 12, h => xi_12_ok q h
  | _ + 13, h => absurd h List.not_mem_nil
def xhk : List (Nat × Nat × Nat) := [(10, 13, 0), (10, 18, 1)]
theorem xhk_ok : ∀ q ∈ xhk, xk_hw q ∈ xw_T := fun q hq => xk_pl_ok (ws := xhk.map xk_hw) (ps := [713, 992]) (by decide +kernel) _ (List.mem_map.mpr ⟨q, hq, rfl⟩)
def xk_cw (ci : Nat) : List Cond := match vwCl[ci]? with
  | some q => [.instantiable q.1 q.2.2, .initialized q.1]
  | none => []
def xk_cn : List Nat := [0, 1, 2, 3, 4, 5, 6, 7, 8, 9]
theorem xk_cn_ok : ∀ ci ∈ xk_cn, ∀ w ∈ xk_cw ci, w ∈ xw_T := fun ci hc w hw => xk_pl_ok (ws := xk_cn.flatMap xk_cw) (ps := [135, 105, 466, 112, 445, 111, 285, 107, 345, 110, 234, 106, 291, 108, 339, 109, 127, 104, 1335, 114]) (by decide +kernel) w (List.mem_flatMap.mpr ⟨ci, hc, hw⟩)
theorem xk_cls3 (ci : Nat) (q : vw_C) (h : vwCl[ci]? = some q) : xo_n ci = q.1 := match ci, h with
  | 0, h => by cases h; rfl
  | 1, h => by cases h; rfl
  | 2, h => by cases h; rfl
  | 3, h => by cases h; rfl
  | 4, h => by cases h; rfl
  | 5, h => by cases h; rfl
  | 6, h => by cases h; rfl
  | 7, h => by cases h; rfl
  | 8, h => by cases h; rfl
  | 9, h => by cases h; rfl
  | k + 10, h => by simp [vwCl] at h
def xk_ik0 : Nat × Nat := (86, 90)
def xk_ik1 : Nat × Nat := (144, 148)
