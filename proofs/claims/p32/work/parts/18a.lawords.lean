set_option maxRecDepth 20000 in
theorem gT_X7_init : GoodIn lw_tbl wsX7_init := goodIn_r _ [56, 57, 58, 59, 60, 61, 43, 275, 100, 101, 45, 276, 137, 138, 46, 277, 171, 172, 47, 278, 189, 190, 48, 279, 251, 252, 49, 280, 281, 63, 64, 65, 77, 66, 67, 44, 79, 80, 82, 83, 85, 68, 69, 70, 71, 76, 72, 103, 104, 105, 108, 106, 110, 112, 114, 116, 118, 120, 107, 139, 140, 141, 142, 146, 143, 150, 153, 156, 145, 144, 173, 174, 175, 176, 177, 180, 181, 179, 178, 191, 192, 193, 194, 199, 201, 203, 205, 207, 208, 209, 195, 210, 211, 212, 213, 214, 215, 216, 197, 198, 196, 253, 254, 255, 256, 257, 263, 265, 267, 258, 259, 260, 261, 262, 87, 89, 91, 93, 95, 97, 282, 284, 286, 288, 290, 292, 294, 122, 124, 126, 128, 130, 132, 134, 160, 162, 164, 166, 168, 182, 184, 186, 218, 220, 222, 224, 226, 228, 230, 232, 234, 236, 238, 240, 242, 244, 246, 248, 268, 270, 272, 73] (by decide +kernel) (by decide +kernel)
set_option maxRecDepth 20000 in
theorem gT_X8_init : GoodIn lw_tbl wsX8_init := goodIn_r _ [706, 707, 58, 59, 76, 709, 710, 820, 711, 712, 713, 715, 716, 717, 718, 719, 720, 722, 723, 724, 725, 726, 727, 728, 730, 731, 732, 733, 734, 735, 737, 738, 739, 740, 741, 742, 743, 745, 747, 749, 751, 753, 755, 757, 759, 761, 763, 765, 767, 769, 771, 773, 775, 777, 779, 781, 783, 785, 787, 789, 791, 793, 795, 797, 799, 801, 803, 805, 807, 809, 811, 813, 815, 817] (by decide +kernel) (by decide +kernel)
set_option maxRecDepth 20000 in
theorem uT_0 : ∀ w ∈ u_ws RX0 TX0 16, w ∈ lw_tbl := fun w h => (goodIn_r (big := lw_tbl) (u_ws RX0 TX0 16) [218, 220, 222, 224, 226, 228, 230, 232, 234, 236, 238, 240, 242, 244, 246, 248] (by decide +kernel) (by decide +kernel) w h).1
set_option maxRecDepth 20000 in
theorem uT_1 : ∀ w ∈ u_ws RX1 TX1 6, w ∈ lw_tbl := fun w h => (goodIn_r (big := lw_tbl) (u_ws RX1 TX1 6) [87, 89, 91, 93, 95, 97] (by decide +kernel) (by decide +kernel) w h).1
set_option maxRecDepth 20000 in
theorem uT_2 : ∀ w ∈ u_ws RX2 TX2 7, w ∈ lw_tbl := fun w h => (goodIn_r (big := lw_tbl) (u_ws RX2 TX2 7) [122, 124, 126, 128, 130, 132, 134] (by decide +kernel) (by decide +kernel) w h).1
set_option maxRecDepth 20000 in
theorem uT_3 : ∀ w ∈ u_ws RX3 TX3 3, w ∈ lw_tbl := fun w h => (goodIn_r (big := lw_tbl) (u_ws RX3 TX3 3) [182, 184, 186] (by decide +kernel) (by decide +kernel) w h).1
set_option maxRecDepth 20000 in
theorem uT_4 : ∀ w ∈ u_ws RX4 TX4 1, w ∈ lw_tbl := fun w h => (goodIn_r (big := lw_tbl) (u_ws RX4 TX4 1) [73] (by decide +kernel) (by decide +kernel) w h).1
set_option maxRecDepth 20000 in
theorem uT_5 : ∀ w ∈ u_ws RX5 TX5 3, w ∈ lw_tbl := fun w h => (goodIn_r (big := lw_tbl) (u_ws RX5 TX5 3) [268, 270, 272] (by decide +kernel) (by decide +kernel) w h).1
set_option maxRecDepth 20000 in
theorem uT_6 : ∀ w ∈ u_ws RX6 TX6 5, w ∈ lw_tbl := fun w h => (goodIn_r (big := lw_tbl) (u_ws RX6 TX6 5) [160, 162, 164, 166, 168] (by decide +kernel) (by decide +kernel) w h).1
set_option maxRecDepth 20000 in
theorem uT_7 : ∀ w ∈ u_ws RX7 TX7 7, w ∈ lw_tbl := fun w h => (goodIn_r (big := lw_tbl) (u_ws RX7 TX7 7) [282, 284, 286, 288, 290, 292, 294] (by decide +kernel) (by decide +kernel) w h).1
set_option maxRecDepth 20000 in
theorem uT_8 : ∀ w ∈ u_ws RX8 TX8 37, w ∈ lw_tbl := fun w h => (goodIn_r (big := lw_tbl) (u_ws RX8 TX8 37) [745, 747, 749, 751, 753, 755, 757, 759, 761, 763, 765, 767, 769, 771, 773, 775, 777, 779, 781, 783, 785, 787, 789, 791, 793, 795, 797, 799, 801, 803, 805, 807, 809, 811, 813, 815, 817] (by decide +kernel) (by decide +kernel) w h).1
set_option maxRecDepth 20000 in
theorem nT_nw : mm_nw = [78, 81, 84, 86, 109, 111, 113, 115, 117, 119, 121, 147, 148, 149, 151, 152, 154, 155, 157, 158, 159, 200, 202, 204, 206, 217, 264, 266, 62, 102].filterMap (fun i => lw_tbl[i]?) := by decide +kernel
theorem nT_in : ∀ w ∈ mm_nw, w ∈ lw_tbl := by
  intro w hw
  rw [nT_nw] at hw
  obtain ⟨i, -, hi⟩ := List.mem_filterMap.mp hw
  exact List.mem_of_getElem? hi
theorem nT_nst : ∀ w ∈ mm_nw, mm_nst w = true := by
  have h : mm_nw.all mm_nst = true := by decide +kernel
  exact fun w hw => List.all_eq_true.mp h w hw
set_option maxRecDepth 20000 in
theorem wT_1 : (Cond.classLink RL 7 RX7 : Cond) ∈ lw_tbl := List.mem_of_getElem? (i := 52) (by decide +kernel)
set_option maxRecDepth 20000 in
theorem wT_2 : (Cond.methodLink RL 9 yX7_init : Cond) ∈ lw_tbl := List.mem_of_getElem? (i := 54) (by decide +kernel)
set_option maxRecDepth 20000 in
theorem wT_3 : (Cond.instanceMethod yX7_init : Cond) ∈ lw_tbl := List.mem_of_getElem? (i := 55) (by decide +kernel)
set_option maxRecDepth 20000 in
theorem wT_4 : (Cond.classLink RL 10 RX8 : Cond) ∈ lw_tbl := List.mem_of_getElem? (i := 702) (by decide +kernel)
set_option maxRecDepth 20000 in
theorem wT_5 : (Cond.methodLink RL 12 yX8_init : Cond) ∈ lw_tbl := List.mem_of_getElem? (i := 704) (by decide +kernel)
set_option maxRecDepth 20000 in
theorem wT_6 : (Cond.instanceMethod yX8_init : Cond) ∈ lw_tbl := List.mem_of_getElem? (i := 705) (by decide +kernel)
set_option maxRecDepth 20000 in
theorem wI_0 : (Cond.instantiable RX0 16 : Cond) ∈ lw_tbl := List.mem_of_getElem? (i := 190) (by decide +kernel)
set_option maxRecDepth 20000 in
theorem wI_1 : (Cond.instantiable RX1 6 : Cond) ∈ lw_tbl := List.mem_of_getElem? (i := 61) (by decide +kernel)
set_option maxRecDepth 20000 in
theorem wI_2 : (Cond.instantiable RX2 7 : Cond) ∈ lw_tbl := List.mem_of_getElem? (i := 101) (by decide +kernel)
set_option maxRecDepth 20000 in
theorem wI_3 : (Cond.instantiable RX3 3 : Cond) ∈ lw_tbl := List.mem_of_getElem? (i := 172) (by decide +kernel)
set_option maxRecDepth 20000 in
theorem wI_4 : (Cond.instantiable RX4 1 : Cond) ∈ lw_tbl := List.mem_of_getElem? (i := 67) (by decide +kernel)
set_option maxRecDepth 20000 in
theorem wI_5 : (Cond.instantiable RX5 3 : Cond) ∈ lw_tbl := List.mem_of_getElem? (i := 252) (by decide +kernel)
set_option maxRecDepth 20000 in
theorem wI_6 : (Cond.instantiable RX6 5 : Cond) ∈ lw_tbl := List.mem_of_getElem? (i := 138) (by decide +kernel)
set_option maxRecDepth 20000 in
theorem wI_7 : (Cond.instantiable RX7 7 : Cond) ∈ lw_tbl := List.mem_of_getElem? (i := 53) (by decide +kernel)
set_option maxRecDepth 20000 in
theorem wI_8 : (Cond.instantiable RX8 37 : Cond) ∈ lw_tbl := List.mem_of_getElem? (i := 703) (by decide +kernel)
set_option maxRecDepth 20000 in
theorem wZ_7 : (Cond.initialized RX7 : Cond) ∈ lw_tbl := List.mem_of_getElem? (i := 42) (by decide +kernel)
set_option maxRecDepth 20000 in
theorem wZ_8 : (Cond.initialized RX8 : Cond) ∈ lw_tbl := List.mem_of_getElem? (i := 50) (by decide +kernel)
set_option maxRecDepth 20000 in
theorem wA_I : (Cond.arrayClass .int : Cond) ∈ lw_tbl := List.mem_of_getElem? (i := 76) (by decide +kernel)
set_option maxRecDepth 20000 in
theorem wA_Z : (Cond.arrayClass .boolean : Cond) ∈ lw_tbl := List.mem_of_getElem? (i := 820) (by decide +kernel)
