def q_GW : List Cond := lw_tbl.filter goodWord
theorem q_in {i : Nat} {w : Cond} (h : lw_tbl[i]? = some w) (g : goodWord w = true) : w ∈ q_GW := List.mem_filter.mpr ⟨List.mem_of_getElem? h, g⟩
def q_wat (i : Nat) (w : Cond) : Bool := decide (lw_tbl[i]? = some w) && goodWord w
theorem q_wat_in {i : Nat} {w : Cond} (h : q_wat i w = true) : w ∈ q_GW := by
  simp only [q_wat, Bool.and_eq_true, decide_eq_true_eq] at h
  exact q_in h.1 h.2
def q_fl : List (Nat × Nat × Nat × Nat × Nat) := [(0, 14, 0, 0, 264), (0, 20, 0, 1, 266), (0, 23, 0, 2, 267), (0, 26, 0, 3, 268), (1, 14, 1, 5, 215), (1, 20, 1, 6, 216), (1, 23, 1, 7, 217), (1, 26, 1, 8, 218), (1, 29, 1, 0, 208), (1, 33, 1, 1, 209), (1, 37, 1, 2, 210), (1, 46, 1, 3, 211), (1, 53, 1, 4, 213), (1, 57, 1, 10, 220), (1, 61, 1, 9, 219), (1, 64, 1, 11, 221), (1, 67, 1, 12, 223), (2, 9, 2, 0, 115), (2, 15, 2, 1, 116), (3, 14, 3, 2, 149), (3, 20, 3, 3, 152), (3, 23, 3, 4, 153), (3, 26, 3, 0, 147), (3, 30, 3, 1, 148), (3, 42, 3, 5, 154), (4, 14, 4, 2, 188), (4, 20, 4, 3, 192), (4, 23, 4, 4, 193), (4, 26, 4, 5, 194), (4, 29, 4, 0, 186), (4, 33, 4, 1, 187), (5, 13, 5, 0, 62), (6, 14, 6, 0, 67), (6, 20, 6, 1, 68), (6, 23, 6, 2, 69), (6, 26, 6, 3, 70), (7, 14, 7, 0, 94), (8, 14, 8, 1, 126), (8, 25, 8, 2, 128), (8, 29, 8, 3, 129), (8, 32, 8, 0, 125), (9, 12, 9, 0, 279), (9, 19, 9, 1, 280), (9, 28, 9, 2, 281), (9, 41, 9, 3, 282), (9, 45, 9, 4, 283), (9, 53, 9, 5, 284), (9, 60, 9, 6, 285), (9, 69, 9, 7, 286), (9, 72, 9, 8, 287), (9, 78, 9, 9, 288), (9, 82, 9, 10, 289), (9, 86, 9, 11, 290)]
theorem q_fl_ok : (q_fl.all (fun q => decide (q.2.2.2.1 < q_N q.2.2.1) && decide (q.2.2.1 < 10) && q_wat q.2.2.2.2 (.fieldLink (q_rn q.1) q.2.1 (q_T q.2.2.1 q.2.2.2.1).1 (q_T q.2.2.1 q.2.2.2.1).2.1 (q_T q.2.2.1 q.2.2.2.1).2.2.1))) = true := by decide +kernel
def q_fn : List (Nat × Nat × Nat × Nat) := [(0, 38, 4, 2), (1, 102, 3, 2), (1, 129, 4, 2), (3, 74, 6, 3), (4, 74, 7, 1), (9, 34, 8, 1), (9, 105, 6, 3), (9, 160, 7, 0), (9, 172, 7, 1), (9, 202, 1, 3), (9, 211, 1, 4), (9, 214, 4, 2), (9, 217, 1, 11), (9, 220, 1, 12), (9, 242, 0, 3), (9, 187, 3, 2), (9, 314, 0, 0)]
theorem q_fn_ok : (q_fn.all (fun q => decide (q.2.2.2 < q_N q.2.2.1) && decide (q.2.2.1 < 10))) = true := by decide +kernel
def q_nw : List (Nat × Nat × Nat × Nat) := [(0, 9, 5, 262), (1, 9, 5, 174), (1, 41, 3, 176), (1, 50, 4, 178), (3, 9, 5, 145), (4, 9, 5, 184), (6, 9, 5, 53), (7, 9, 5, 88), (8, 9, 2, 109), (8, 20, 5, 122), (9, 9, 6, 47), (9, 16, 7, 82), (9, 23, 8, 103), (9, 32, 3, 139), (9, 48, 1, 168), (9, 57, 4, 252), (9, 64, 2, 254), (9, 75, 0, 256), (11, 20, 9, 39)]
theorem q_nw_ok : (q_nw.all (fun q => decide (q.2.2.1 < 10) && q_wat q.2.2.2 (.classLink (q_rn q.1) q.2.1 (q_rn q.2.2.1)))) = true := by decide +kernel
def q_cw : List (Nat × Nat × List Nat) := [(257, 29, [270, 272, 274, 276]), (169, 27, [225, 227, 229, 231, 233, 235, 237, 239, 241, 243, 245, 247, 249]), (110, 25, [117, 119]), (140, 26, [155, 157, 159, 161, 163, 165]), (179, 28, [195, 197, 199, 201, 203, 205]), (54, 21, [63]), (48, 20, [73, 75, 77, 79]), (83, 23, [98, 100]), (104, 24, [130, 132, 134, 136]), (40, 19, [291, 293, 295, 297, 299, 301, 303, 305, 307, 309, 311, 313])]
theorem q_cw_ok : ((List.range 10).all (fun ci => match q_cw[ci]? with
  | some (a, b, l) => q_wat a (.instantiable (q_rn ci) (q_N ci)) && q_wat b (.initialized (q_rn ci)) && (List.range (q_N ci)).all (fun k => match l[k]? with
    | some i => q_wat i (u_lay (q_rn ci) (q_T ci) k)
    | none => false)
  | none => false)) = true := by decide +kernel
theorem q_cl_at : ∀ ci, ci < 10 → q_cl[ci]? = some (q_rn ci, q_T ci, q_N ci) := by
  intro ci h
  match ci, h with
  | 0, _ => rfl
  | 1, _ => rfl
  | 2, _ => rfl
  | 3, _ => rfl
  | 4, _ => rfl
  | 5, _ => rfl
  | 6, _ => rfl
  | 7, _ => rfl
  | 8, _ => rfl
  | 9, _ => rfl
  | i + 10, h => exact absurd h (by omega)
theorem q_ty_ok : ∀ ci, ci < 10 → ∀ k, k < q_N ci → parseFieldDescriptor (q_T ci k).2.2.1 = some (q_ty ci k) := by
  intro ci h
  match ci, h with
  | 0, _ => exact tyX0_ok
  | 1, _ => exact tyX1_ok
  | 2, _ => exact tyX2_ok
  | 3, _ => exact tyX3_ok
  | 4, _ => exact tyX4_ok
  | 5, _ => exact tyX5_ok
  | 6, _ => exact tyX6_ok
  | 7, _ => exact tyX7_ok
  | 8, _ => exact tyX8_ok
  | 9, _ => exact tyX9_ok
  | i + 10, h => exact absurd h (by omega)
theorem q_nm_ok : ∀ ci, ci < 10 → ∀ a, a < q_N ci → ∀ b, b < q_N ci → a ≠ b → (q_T ci a).2.1 ≠ (q_T ci b).2.1 := by
  intro ci h
  match ci, h with
  | 0, _ => exact nmX0
  | 1, _ => exact nmX1
  | 2, _ => exact nmX2
  | 3, _ => exact nmX3
  | 4, _ => exact nmX4
  | 5, _ => exact nmX5
  | 6, _ => exact nmX6
  | 7, _ => exact nmX7
  | 8, _ => exact nmX8
  | 9, _ => exact nmX9
  | i + 10, h => exact absurd h (by omega)
theorem q_df_ok : ∀ ci, ci < 10 → ∀ k, k < q_N ci → defaultValue (q_ty ci k) = vp_V (q_df ci) k := by decide +kernel
def q_ct : List (Nat × Nat × Nat × Nat) := [(1, 132, 1103515245, 516), (1, 133, 2147483647, 517), (9, 120, 99999, 710), (9, 293, 40503, 468), (9, 294, 104729, 478), (12, 265, 1431655765, 494), (12, 266, 858993459, 495), (12, 267, 252645135, 496), (11, 7, 40503, 548), (11, 8, 2147483647, 552), (11, 65, 100000, 705)]
theorem q_ct_ok : (q_ct.all (fun q => q_wat q.2.2.2 (.constant (q_rn q.1) q.2.1 (Int32.ofNat q.2.2.1)))) = true := by decide +kernel
def q_mw : List (Nat × Nat × Nat × Nat × Nat) := [(260, 29, 2, 259, 0), (649, 29, 0, 647, 648), (820, 29, 0, 818, 819), (826, 29, 0, 824, 825), (536, 29, 0, 534, 535), (541, 29, 0, 539, 540), (532, 29, 0, 530, 531), (172, 27, 2, 171, 0), (482, 27, 0, 480, 481), (487, 27, 0, 486, 10), (507, 27, 0, 506, 11), (511, 27, 0, 510, 12), (515, 27, 0, 514, 13), (528, 27, 0, 527, 14), (113, 25, 2, 112, 0), (700, 25, 0, 698, 699), (327, 25, 0, 325, 326), (766, 25, 0, 764, 765), (335, 25, 0, 333, 334), (339, 25, 0, 337, 338), (331, 25, 0, 329, 330), (143, 26, 2, 142, 0), (409, 26, 0, 407, 408), (415, 26, 0, 413, 414), (419, 26, 0, 418, 2), (429, 26, 0, 427, 428), (435, 26, 0, 434, 3), (442, 26, 0, 441, 4), (182, 28, 2, 181, 0), (323, 28, 0, 321, 322), (359, 28, 0, 357, 358), (373, 28, 0, 371, 372), (795, 28, 0, 793, 794), (377, 28, 0, 375, 376), (385, 28, 0, 384, 0), (57, 21, 2, 56, 0), (343, 21, 0, 341, 342), (364, 21, 0, 362, 363), (93, 21, 0, 91, 92), (51, 20, 2, 50, 0), (653, 20, 0, 651, 652), (658, 20, 0, 657, 16), (666, 20, 0, 664, 665), (405, 20, 0, 403, 404), (351, 20, 0, 349, 350), (472, 20, 0, 470, 471), (347, 20, 0, 345, 346), (381, 20, 0, 379, 380), (424, 20, 0, 422, 423), (500, 20, 0, 498, 499), (521, 20, 0, 519, 520), (86, 23, 2, 85, 0), (368, 23, 0, 366, 367), (107, 24, 2, 106, 0), (696, 24, 0, 694, 695), (343, 21, 0, 341, 342), (343, 21, 0, 341, 342), (343, 21, 0, 341, 342), (400, 24, 0, 398, 399), (395, 24, 0, 393, 394), (43, 19, 2, 42, 0), (556, 19, 0, 554, 555), (709, 19, 0, 707, 708), (691, 19, 0, 689, 690), (343, 21, 0, 341, 342), (343, 21, 0, 341, 342), (343, 21, 0, 341, 342), (662, 19, 0, 660, 661), (704, 19, 0, 702, 703), (343, 21, 0, 341, 342), (343, 21, 0, 341, 342), (343, 21, 0, 341, 342), (715, 19, 0, 713, 714), (755, 19, 0, 753, 754), (762, 19, 0, 760, 761), (725, 19, 0, 723, 724), (721, 19, 0, 719, 720), (729, 19, 0, 727, 728), (799, 19, 0, 797, 798), (812, 19, 0, 810, 811), (835, 19, 0, 833, 834), (848, 19, 0, 846, 847), (841, 19, 0, 839, 840), (853, 19, 0, 851, 852), (787, 19, 0, 785, 786), (343, 21, 0, 341, 342), (791, 19, 0, 789, 790), (319, 19, 0, 317, 318), (452, 19, 1, 451, 0), (559, 19, 1, 558, 0), (815, 19, 1, 814, 0), (355, 19, 1, 354, 0), (438, 19, 1, 437, 0), (749, 19, 0, 748, 17), (467, 19, 0, 466, 8), (477, 19, 0, 476, 9), (456, 19, 0, 455, 6), (460, 19, 0, 459, 7), (391, 19, 0, 390, 1), (449, 19, 0, 448, 5), (493, 36, 1, 492, 0), (547, 18, 1, 546, 0), (551, 18, 1, 550, 0), (544, 18, 1, 543, 0), (758, 18, 1, 757, 0), (803, 18, 1, 802, 0), (687, 18, 1, 686, 0), (830, 18, 1, 829, 0), (844, 18, 1, 843, 0), (806, 18, 1, 805, 0), (0, 0, 0, 0, 0)]
def q_word (j : Nat) : Cond := if q_hh j = [] then .code (q_y j) (q_b j) (q_mL j) (q_rt j) else .codeWith (q_y j) (q_b j) (q_mL j) (q_rt j) (q_hh j)
def q_mt (j : Nat) : Nat := match q_mw[j]? with
  | some q => q.2.2.1
  | none => 9
def q_mokB (j : Nat) : Bool := match q_mw[j]? with
  | some (c, i, t, w, sl) => q_wat c (q_word j) && (q_wat i (.initialized (q_y j).cls) && (decide ((q_y j).cls = q_rn (q_oc j)) && (plainName (q_y j).cls && (decide ((q_y j).cls ≠ "java/lang/invoke/MethodHandle") && (decide ((q_y j).cls ≠ "java/lang/invoke/VarHandle") && (decide ((parseMethodDescriptor (q_y j).desc).map (fun d => d.parameters.length) = some (q_np j)) && (match t with
    | 1 => q_wat w (.static (q_y j))
    | 2 => q_wat w (.instanceMethod (q_y j)) && decide ((q_y j).name = "<init>") && decide (q_rt j = none)
    | _ => q_wat w (.instanceMethod (q_y j)) && q_wat sl (.selects (q_y j).cls (q_y j) (q_y j)))))))))
  | none => false
theorem q_mok_0 : ((List.range 20).all (fun i => q_mokB (0 + i))) = true := by decide +kernel
theorem q_mok_20 : ((List.range 20).all (fun i => q_mokB (20 + i))) = true := by decide +kernel
theorem q_mok_40 : ((List.range 20).all (fun i => q_mokB (40 + i))) = true := by decide +kernel
theorem q_mok_60 : ((List.range 20).all (fun i => q_mokB (60 + i))) = true := by decide +kernel
theorem q_mok_80 : ((List.range 20).all (fun i => q_mokB (80 + i))) = true := by decide +kernel
theorem q_mok_100 : ((List.range 1).all (fun i => q_mokB (100 + i))) = true := by decide +kernel
theorem q_mok_101 : ((List.range 1).all (fun i => q_mokB (101 + i))) = true := by decide +kernel
theorem q_mok_102 : ((List.range 1).all (fun i => q_mokB (102 + i))) = true := by decide +kernel
theorem q_mok_103 : ((List.range 1).all (fun i => q_mokB (103 + i))) = true := by decide +kernel
theorem q_mok_104 : ((List.range 1).all (fun i => q_mokB (104 + i))) = true := by decide +kernel
theorem q_mok_105 : ((List.range 1).all (fun i => q_mokB (105 + i))) = true := by decide +kernel
theorem q_mok_106 : ((List.range 1).all (fun i => q_mokB (106 + i))) = true := by decide +kernel
theorem q_mok_107 : ((List.range 1).all (fun i => q_mokB (107 + i))) = true := by decide +kernel
theorem q_mok_108 : ((List.range 1).all (fun i => q_mokB (108 + i))) = true := by decide +kernel
theorem q_mok_109 : ((List.range 1).all (fun i => q_mokB (109 + i))) = true := by decide +kernel
theorem q_mok (j : Nat) (h : j < 110) : q_mokB j = true := by
  have key : ∀ (a b : Nat), a ≤ j → j < a + b → ((List.range b).all (fun i => q_mokB (a + i))) = true → q_mokB j = true := by
    intro a b h1 h2 h3
    have h4 := List.all_eq_true.mp h3 (j - a) (List.mem_range.mpr (by omega))
    rwa [show a + (j - a) = j by omega] at h4
  rcases (show (0 ≤ j ∧ j < 0 + 20) ∨ (20 ≤ j ∧ j < 20 + 20) ∨ (40 ≤ j ∧ j < 40 + 20) ∨ (60 ≤ j ∧ j < 60 + 20) ∨ (80 ≤ j ∧ j < 80 + 20) ∨ (100 ≤ j ∧ j < 100 + 1) ∨ (101 ≤ j ∧ j < 101 + 1) ∨ (102 ≤ j ∧ j < 102 + 1) ∨ (103 ≤ j ∧ j < 103 + 1) ∨ (104 ≤ j ∧ j < 104 + 1) ∨ (105 ≤ j ∧ j < 105 + 1) ∨ (106 ≤ j ∧ j < 106 + 1) ∨ (107 ≤ j ∧ j < 107 + 1) ∨ (108 ≤ j ∧ j < 108 + 1) ∨ (109 ≤ j ∧ j < 109 + 1) by omega) with h | h | h | h | h | h | h | h | h | h | h | h | h | h | h
  · exact key 0 20 h.1 h.2 q_mok_0
  · exact key 20 20 h.1 h.2 q_mok_20
  · exact key 40 20 h.1 h.2 q_mok_40
  · exact key 60 20 h.1 h.2 q_mok_60
  · exact key 80 20 h.1 h.2 q_mok_80
  · exact key 100 1 h.1 h.2 q_mok_100
  · exact key 101 1 h.1 h.2 q_mok_101
  · exact key 102 1 h.1 h.2 q_mok_102
  · exact key 103 1 h.1 h.2 q_mok_103
  · exact key 104 1 h.1 h.2 q_mok_104
  · exact key 105 1 h.1 h.2 q_mok_105
  · exact key 106 1 h.1 h.2 q_mok_106
  · exact key 107 1 h.1 h.2 q_mok_107
  · exact key 108 1 h.1 h.2 q_mok_108
  · exact key 109 1 h.1 h.2 q_mok_109
def q_iv : List (Nat × Nat × Nat × Nat × Nat) := [(0, 3, 998, 6, 261), (0, 11, 35, 4, 263), (0, 30, 36, 0, 537), (0, 34, 37, 0, 827), (0, 41, 4, 0, 533), (0, 45, 5, 0, 538), (1, 3, 998, 6, 173), (1, 11, 35, 4, 175), (1, 43, 21, 4, 177), (1, 52, 28, 4, 180), (1, 70, 23, 0, 483), (1, 73, 9, 0, 484), (1, 77, 10, 0, 504), (1, 81, 11, 0, 508), (1, 84, 12, 0, 512), (1, 87, 31, 0, 524), (1, 91, 13, 0, 525), (1, 94, 38, 0, 488), (1, 97, 16, 0, 489), (1, 105, 36, 0, 490), (1, 109, 100, 2, 491), (1, 114, 49, 0, 497), (1, 119, 37, 0, 502), (1, 123, 52, 0, 503), (1, 134, 50, 0, 518), (1, 138, 22, 0, 523), (2, 3, 998, 6, 114), (2, 18, 18, 0, 332), (2, 22, 19, 0, 336), (3, 3, 998, 6, 144), (3, 11, 35, 4, 146), (3, 34, 37, 0, 410), (3, 38, 36, 0, 411), (3, 46, 24, 0, 416), (3, 49, 20, 0, 420), (3, 55, 48, 0, 421), (3, 60, 22, 0, 425), (3, 63, 38, 0, 430), (3, 66, 16, 0, 431), (3, 70, 26, 0, 432), (3, 77, 92, 3, 436), (3, 81, 27, 0, 439), (3, 84, 46, 0, 443), (4, 3, 998, 6, 183), (4, 11, 35, 4, 185), (4, 37, 16, 0, 324), (4, 43, 20, 0, 328), (4, 47, 36, 0, 340), (4, 51, 46, 0, 344), (4, 57, 38, 0, 360), (4, 60, 37, 0, 361), (4, 64, 52, 0, 365), (4, 70, 31, 0, 370), (4, 78, 33, 0, 374), (4, 81, 47, 0, 378), (4, 85, 34, 0, 382), (4, 88, 44, 0, 386), (4, 91, 91, 3, 387), (5, 1, 998, 6, 58), (5, 7, 999, 7, 59), (6, 3, 998, 6, 52), (6, 11, 35, 4, 55), (6, 30, 37, 0, 654), (6, 34, 41, 0, 655), (6, 38, 36, 0, 352), (6, 42, 44, 0, 348), (6, 46, 91, 3, 353), (6, 49, 92, 3, 501), (6, 53, 49, 0, 522), (7, 3, 998, 6, 87), (7, 11, 35, 4, 89), (7, 20, 38, 0, 90), (7, 23, 36, 0, 369), (8, 3, 998, 6, 108), (8, 11, 14, 4, 111), (8, 22, 35, 4, 123), (8, 36, 38, 0, 124), (8, 39, 15, 0, 697), (8, 42, 36, 0, 401), (8, 58, 43, 0, 402), (8, 64, 16, 0, 396), (8, 67, 58, 0, 397), (8, 70, 22, 0, 406), (9, 3, 998, 6, 44), (9, 11, 39, 5, 49), (9, 18, 51, 4, 84), (9, 25, 53, 4, 105), (9, 38, 21, 4, 141), (9, 50, 7, 4, 170), (9, 59, 28, 4, 253), (9, 66, 14, 4, 255), (9, 77, 0, 5, 258), (9, 90, 89, 2, 557), (9, 94, 88, 2, 450), (9, 113, 1, 0, 646), (9, 116, 40, 0, 650), (9, 125, 54, 0, 693), (9, 128, 16, 0, 444), (9, 140, 42, 0, 663), (9, 164, 36, 0, 445), (9, 169, 37, 0, 684), (9, 180, 59, 0, 392), (9, 205, 8, 0, 479), (9, 132, 17, 0, 763), (9, 228, 93, 0, 746), (9, 231, 33, 0, 800), (9, 234, 90, 2, 813), (9, 239, 2, 0, 817), (9, 245, 4, 0, 822), (9, 249, 96, 0, 453), (9, 252, 95, 0, 474), (9, 255, 3, 0, 823), (9, 261, 5, 0, 837), (9, 266, 94, 0, 464), (9, 270, 32, 0, 792), (9, 273, 29, 0, 320), (9, 277, 30, 0, 356), (9, 281, 98, 0, 388), (9, 284, 99, 0, 446), (9, 287, 58, 0, 750), (9, 290, 92, 2, 751), (9, 295, 97, 0, 457), (9, 299, 22, 0, 473), (9, 302, 18, 0, 461), (9, 305, 19, 0, 462), (9, 308, 43, 0, 463), (9, 311, 45, 0, 469), (9, 184, 23, 0, 412), (9, 195, 25, 0, 426), (9, 317, 6, 0, 529), (11, 9, 101, 2, 545), (11, 15, 102, 2, 549), (11, 19, 61, 0, 553), (11, 25, 67, 0, 659), (11, 28, 73, 0, 752), (11, 32, 74, 0, 759), (11, 36, 84, 0, 784), (11, 40, 86, 0, 788), (11, 44, 78, 0, 796), (11, 48, 75, 0, 722), (11, 51, 76, 0, 718), (11, 54, 72, 0, 712), (11, 58, 63, 0, 688), (11, 61, 68, 0, 701), (11, 66, 62, 0, 706), (11, 69, 77, 0, 726), (11, 72, 104, 2, 756), (11, 76, 105, 2, 801), (11, 80, 80, 0, 832), (11, 86, 107, 2, 828), (11, 90, 81, 0, 845), (11, 96, 79, 0, 809), (11, 100, 82, 0, 838), (11, 103, 108, 2, 842), (11, 107, 83, 0, 850), (11, 110, 60, 4, 41), (11, 113, 103, 2, 542), (11, 117, 106, 2, 685), (11, 121, 109, 2, 804), (11, 125, 87, 0, 316)]
def q_ivB (q : Nat × Nat × Nat × Nat × Nat) : Bool := match q with
  | (oc, idx, a, c, i) => match c with
    | 0 => decide (a < 110) && decide (q_mt a = 0) && q_wat i (.methodLink (q_rn oc) idx (q_y a)) && decide (q_oc a < 10)
    | 2 => decide (a < 110) && decide (q_mt a = 1) && q_wat i (.methodLink (q_rn oc) idx (q_y a))
    | 3 => decide (a < 110) && decide (q_mt a = 1)
    | 4 => decide (a < 110) && decide (q_mt a = 2) && q_wat i (.methodLink (q_rn oc) idx (q_y a))
    | 5 => decide (a < 110) && decide (q_mt a = 2)
    | 6 => decide (a = 998) && q_wat i (.methodLink (q_rn oc) idx Lib.objectInit)
    | 7 => decide (a = 999) && q_wat i (.methodLink (q_rn oc) idx Lib.Math.max.name)
    | _ => false
theorem q_iv_ok : (q_iv.all q_ivB) = true := by decide +kernel
def q_NW : List Cond := [.fieldLinkNest (q_rn 0) 38 (q_T 4 2).1 (q_T 4 2).2.1 (q_T 4 2).2.2.1 "Tilehold", .fieldLinkNest (q_rn 1) 102 (q_T 3 2).1 (q_T 3 2).2.1 (q_T 3 2).2.2.1 "Tilehold", .fieldLinkNest (q_rn 1) 129 (q_T 4 2).1 (q_T 4 2).2.1 (q_T 4 2).2.2.1 "Tilehold", .fieldLinkNest (q_rn 3) 74 (q_T 6 3).1 (q_T 6 3).2.1 (q_T 6 3).2.2.1 "Tilehold", .fieldLinkNest (q_rn 4) 74 (q_T 7 1).1 (q_T 7 1).2.1 (q_T 7 1).2.2.1 "Tilehold", .fieldLinkNest (q_rn 9) 34 (q_T 8 1).1 (q_T 8 1).2.1 (q_T 8 1).2.2.1 "Tilehold", .fieldLinkNest (q_rn 9) 105 (q_T 6 3).1 (q_T 6 3).2.1 (q_T 6 3).2.2.1 "Tilehold", .fieldLinkNest (q_rn 9) 160 (q_T 7 0).1 (q_T 7 0).2.1 (q_T 7 0).2.2.1 "Tilehold", .fieldLinkNest (q_rn 9) 172 (q_T 7 1).1 (q_T 7 1).2.1 (q_T 7 1).2.2.1 "Tilehold", .fieldLinkNest (q_rn 9) 202 (q_T 1 3).1 (q_T 1 3).2.1 (q_T 1 3).2.2.1 "Tilehold", .fieldLinkNest (q_rn 9) 211 (q_T 1 4).1 (q_T 1 4).2.1 (q_T 1 4).2.2.1 "Tilehold", .fieldLinkNest (q_rn 9) 214 (q_T 4 2).1 (q_T 4 2).2.1 (q_T 4 2).2.2.1 "Tilehold", .fieldLinkNest (q_rn 9) 217 (q_T 1 11).1 (q_T 1 11).2.1 (q_T 1 11).2.2.1 "Tilehold", .fieldLinkNest (q_rn 9) 220 (q_T 1 12).1 (q_T 1 12).2.1 (q_T 1 12).2.2.1 "Tilehold", .fieldLinkNest (q_rn 9) 242 (q_T 0 3).1 (q_T 0 3).2.1 (q_T 0 3).2.2.1 "Tilehold", .fieldLinkNest (q_rn 9) 187 (q_T 3 2).1 (q_T 3 2).2.1 (q_T 3 2).2.2.1 "Tilehold", .fieldLinkNest (q_rn 9) 314 (q_T 0 0).1 (q_T 0 0).2.1 (q_T 0 0).2.2.1 "Tilehold", .methodLinkNest (q_rn 3) 77 (q_y 92) "Tilehold", .methodLinkNest (q_rn 4) 91 (q_y 91) "Tilehold", .methodLinkNest (q_rn 6) 46 (q_y 91) "Tilehold", .methodLinkNest (q_rn 6) 49 (q_y 92) "Tilehold", .methodLinkNest (q_rn 9) 11 (q_y 39) "Tilehold", .methodLinkNest (q_rn 9) 77 (q_y 0) "Tilehold", .castable "java/lang/IllegalArgumentException" "java/lang/IllegalArgumentException", .castable "java/lang/IndexOutOfBoundsException" "java/lang/IndexOutOfBoundsException", .castable "java/util/NoSuchElementException" "java/util/NoSuchElementException", .declares ⟨"java/lang/RuntimeException", "<init>", "(Ljava/lang/String;)V"⟩, .declares ⟨"java/lang/Exception", "<init>", "(Ljava/lang/String;)V"⟩, .declares ⟨"java/lang/Throwable", "<init>", "(Ljava/lang/String;)V"⟩, .castable "java/lang/IllegalStateException" "java/lang/IllegalStateException", .castable "java/lang/UnsupportedOperationException" "java/lang/UnsupportedOperationException"]
def q_NWi : List Nat := [189, 150, 190, 72, 96, 127, 71, 95, 97, 212, 214, 191, 222, 224, 269, 151, 265, 436, 387, 353, 501, 49, 258, 562, 769, 669, 564, 566, 568, 632, 732]
theorem q_NW_at : (q_NW.map some) = q_NWi.map (fun i => lw_tbl[i]?) := by decide +kernel
theorem q_NW_in : ∀ w ∈ q_NW, w ∈ lw_tbl := by
  intro w hw
  have h1 : some w ∈ q_NW.map some := List.mem_map.mpr ⟨w, hw, rfl⟩
  rw [q_NW_at] at h1
  obtain ⟨i, -, hi⟩ := List.mem_map.mp h1
  exact List.mem_of_getElem? hi
/-- what a word is that isn't good, but stays -/
def q_nk (w : Cond) : Bool := match w with
  | .fieldLinkNest _ _ _ _ _ _ => true
  | .methodLinkNest _ _ _ _ => true
  | .castable _ _ => true
  | .declares _ => true
  | _ => false
theorem q_NW_nk : q_NW.all q_nk = true := by decide +kernel
theorem q_arr : q_wat 66 (.arrayClass .int) = true ∧ q_wat 854 (.arrayClass .char) = true := by decide +kernel
theorem q_AO_in : (Cond.arrayOver (.array .int)) ∈ lw_tbl := List.mem_of_getElem? (i := 808) (by decide +kernel)
theorem q_libw : q_wat 45 (.instanceMethod Lib.objectInit) = true ∧ q_wat 46 (.code Lib.objectInit ⟨#[0xb1]⟩ 1 none) = true ∧ q_wat 60 (.static Lib.Math.max.name) = true ∧ q_wat 22 (.initialized "java/lang/Math") = true ∧ q_wat 61 (.code Lib.Math.max.name Lib.Math.max.code 2 (some .int)) = true := by decide +kernel
def q_xs : List String := ["java/lang/IllegalArgumentException", "java/lang/IllegalStateException", "java/lang/IndexOutOfBoundsException", "java/util/NoSuchElementException", "java/lang/UnsupportedOperationException"]
def q_x (e : Nat) : String := q_xs.getD e ""
def q_ns : List String := ["java/lang/RuntimeException", "java/lang/Exception"]
def q_th : List ((Nat × Nat) × (Nat × Nat × Nat × Nat) × Nat × Nat × Nat × String) := [((61, 40), (0, 98, 100, 102), 0, 560, 33, "a colour or the weight is out of range"), ((61, 62), (1, 108, 110, 112), 0, 630, 34, "there are 8 tiles"), ((62, 10), (0, 98, 121, 102), 0, 560, 33, "the seed is out of range"), ((63, 20), (0, 98, 123, 102), 0, 560, 33, "the width or the height is out of range"), ((67, 11), (3, 141, 143, 145), 0, 667, 35, "there is no such tile"), ((67, 31), (0, 98, 158, 102), 0, 560, 33, "the number of cells is out of range"), ((72, 11), (0, 98, 198, 102), 0, 560, 33, "the limit is out of range"), ((72, 31), (1, 108, 200, 112), 0, 630, 34, "there are no tiles"), ((74, 14), (2, 135, 137, 139), 0, 767, 38, "there is no such cell"), ((74, 31), (1, 108, 209, 112), 0, 630, 34, "the world is not filled"), ((77, 14), (4, 223, 225, 227), 0, 730, 37, "the world has more than 4 cells"), ((78, 7), (1, 108, 209, 112), 0, 630, 34, "the world is not filled"), ((79, 8), (0, 98, 237, 102), 0, 560, 33, "the place is out of range"), ((79, 55), (1, 108, 243, 112), 0, 630, 34, "there are no tiles, or 30 other chunks are kept"), ((80, 8), (0, 98, 237, 102), 0, 560, 33, "the place is out of range"), ((80, 49), (3, 141, 259, 145), 1, 667, 35, "the chunk is not kept, or is not filled"), ((80, 71), (2, 135, 137, 139), 0, 767, 38, "there is no such cell"), ((81, 18), (0, 98, 264, 102), 1, 560, 33, "a number is out of range"), ((84, 7), (1, 108, 209, 112), 0, 630, 34, "the world is not filled"), ((86, 7), (1, 108, 209, 112), 0, 630, 34, "the world is not filled")]
def q_ST : List (Nat × String) := [(100, "a colour or the weight is out of range"), (110, "there are 8 tiles"), (121, "the seed is out of range"), (123, "the width or the height is out of range"), (143, "there is no such tile"), (158, "the number of cells is out of range"), (198, "the limit is out of range"), (200, "there are no tiles"), (137, "there is no such cell"), (209, "the world is not filled"), (225, "the world has more than 4 cells"), (237, "the place is out of range"), (243, "there are no tiles, or 30 other chunks are kept"), (259, "the chunk is not kept, or is not filled"), (264, "a number is out of range")]
def q_thB (q : (Nat × Nat) × (Nat × Nat × Nat × Nat) × Nat × Nat × Nat × String) : Bool := match q with
  | ((j, pc), (e, ik, si, ic), w, i1, i2, tx) => decide (e < 5) && (decide (j < 110) && (decide (q_oc j = 9) && (decide (q_hh j = []) && (q_wat i1 (.classLink (q_rn 9) ik (q_x e)) && (q_wat i2 (.initialized (q_x e)) && (decide ((si, tx) ∈ q_ST) && (decide (6 ≤ q_fr j) && (decide (98 ≤ q_lo j) && (match w with
    | 0 => decide (decode (q_b j) pc = .ok (.new ik, 3)) && (decide (decode (q_b j) (pc + 3) = .ok (.dup, 1)) && (decide (decode (q_b j) (pc + 4) = .ok (.ldc si, 2)) && (decide (decode (q_b j) (pc + 6) = .ok (.invokespecial ic, 3)) && decide (decode (q_b j) (pc + 9) = .ok (.athrow, 1)))))
    | _ => decide (decode (q_b j) pc = .ok (.new ik, 3)) && (decide (decode (q_b j) (pc + 3) = .ok (.dup, 1)) && (decide (decode (q_b j) (pc + 4) = .ok (.ldc_w si, 3)) && (decide (decode (q_b j) (pc + 7) = .ok (.invokespecial ic, 3)) && decide (decode (q_b j) (pc + 10) = .ok (.athrow, 1))))))))))))))
theorem q_th_ok : (q_th.all q_thB) = true := by decide +kernel
/-- the words of the throws, by constructor entry and kind -/
def q_rx (e : Nat) : ByteArray := if e = 3 then ⟨#[0x2a, 0x2b, 0xb7, 0x00, 0x0d, 0xb1]⟩ else ⟨#[0x2a, 0x2b, 0xb7, 0x00, 0x07, 0xb1]⟩
def q_ix (e : Nat) : Nat := if e = 3 then 13 else 7
theorem q_rx_ok : ∀ e, e < 5 → decode (q_rx e) 0 = .ok (.aload_n 0, 1) ∧ decode (q_rx e) 1 = .ok (.aload_n 1, 1) ∧ decode (q_rx e) 2 = .ok (.invokespecial (q_ix e), 3) ∧ decode (q_rx e) 5 = .ok (.return_, 1) ∧ Bundle.fit (q_x e) = true := by decide +kernel
def q_atw (ic e : Nat) : List Cond := (q_atX (q_rn 9) ic (q_x e) (q_ix e) (q_rx e) "java/lang/RuntimeException" ["java/lang/Exception"]).filter vx_no
def q_ic : List (Nat × Nat × List Nat) := [(102, 0, [30, 582, 591, 597, 600, 602, 583, 584, 45, 46, 585, 590, 598, 618, 572, 619, 574, 620, 576, 586, 588, 578, 614, 615, 617, 578, 605, 606, 607, 608, 0, 608, 609, 610, 611, 0, 611, 612, 613, 614, 0, 604, 561, 0, 569, 570, 571, 573, 575, 577, 581, 580, 579]), (112, 1, [30, 582, 591, 597, 600, 602, 583, 584, 45, 46, 585, 590, 598, 618, 572, 619, 574, 620, 576, 586, 588, 578, 614, 615, 617, 578, 641, 642, 643, 608, 0, 608, 609, 610, 611, 0, 611, 612, 613, 614, 0, 640, 631, 0, 633, 593, 634, 635, 636, 637, 581, 580, 638]), (139, 2, [30, 582, 591, 597, 600, 602, 583, 584, 45, 46, 585, 590, 598, 618, 572, 619, 574, 620, 576, 586, 588, 578, 614, 615, 617, 578, 778, 779, 780, 608, 0, 608, 609, 610, 611, 0, 611, 612, 613, 614, 0, 777, 768, 0, 770, 594, 771, 772, 773, 774, 581, 580, 775]), (145, 3, [30, 582, 591, 597, 600, 602, 583, 584, 45, 46, 585, 590, 598, 618, 572, 619, 574, 620, 576, 586, 588, 578, 614, 615, 617, 578, 678, 679, 680, 608, 0, 608, 609, 610, 611, 0, 611, 612, 613, 614, 0, 677, 668, 0, 670, 596, 671, 672, 673, 674, 581, 580, 675]), (227, 4, [30, 582, 591, 597, 600, 602, 583, 584, 45, 46, 585, 590, 598, 618, 572, 619, 574, 620, 576, 586, 588, 578, 614, 615, 617, 578, 741, 742, 743, 608, 0, 608, 609, 610, 611, 0, 611, 612, 613, 614, 0, 740, 731, 0, 733, 595, 734, 735, 736, 737, 581, 580, 738])]
theorem q_ic_in : ((q_th.map (fun q => (q.2.1.2.2.2, q.2.1.1))).all (fun q => decide (q ∈ q_ic.map (fun z => (z.1, z.2.1))))) = true := by decide +kernel
theorem q_ic_ok : (q_ic.all (fun q => decide ((q_atw q.1 q.2.1).length = q.2.2.length) && ((q_atw q.1 q.2.1).zip q.2.2).all (fun z => q_wat z.2 z.1 || decide (z.1 ∈ q_NW)))) = true := by decide +kernel
theorem q_ic_ot : (q_ic.all (fun q => (q_atw q.1 q.2.1).all vx_ot)) = true := by decide +kernel
theorem q_th_ot : (q_th.all (fun q => vx_ot (.classLink (q_rn 9) q.2.1.2.1 (q_x q.2.1.1)) && vx_ot (.initialized (q_x q.2.1.1)))) = true := by decide +kernel
