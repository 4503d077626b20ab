theorem dX0_init_0 : decode cX0_init 0 = .ok (.aload_n 0, 1) := by decide +kernel
theorem dX0_init_1 : decode cX0_init 1 = .ok (.invokespecial 3, 3) := by decide +kernel
theorem dX0_init_4 : decode cX0_init 4 = .ok (.aload_n 0, 1) := by decide +kernel
theorem dX0_init_5 : decode cX0_init 5 = .ok (.iconst 4, 1) := by decide +kernel
theorem dX0_init_6 : decode cX0_init 6 = .ok (.putfield 9, 3) := by decide +kernel
theorem dX0_init_9 : decode cX0_init 9 = .ok (.aload_n 0, 1) := by decide +kernel
theorem dX0_init_10 : decode cX0_init 10 = .ok (.iconst 2, 1) := by decide +kernel
theorem dX0_init_11 : decode cX0_init 11 = .ok (.putfield 15, 3) := by decide +kernel
theorem dX0_init_14 : decode cX0_init 14 = .ok (.aload_n 0, 1) := by decide +kernel
theorem dX0_init_15 : decode cX0_init 15 = .ok (.iconst 1, 1) := by decide +kernel
theorem dX0_init_16 : decode cX0_init 16 = .ok (.putfield 18, 3) := by decide +kernel
theorem dX0_init_19 : decode cX0_init 19 = .ok (.aload_n 0, 1) := by decide +kernel
theorem dX0_init_20 : decode cX0_init 20 = .ok (.iconst 0, 1) := by decide +kernel
theorem dX0_init_21 : decode cX0_init 21 = .ok (.putfield 21, 3) := by decide +kernel
theorem dX0_init_24 : decode cX0_init 24 = .ok (.aload_n 0, 1) := by decide +kernel
theorem dX0_init_25 : decode cX0_init 25 = .ok (.iconst 0, 1) := by decide +kernel
theorem dX0_init_26 : decode cX0_init 26 = .ok (.putfield 24, 3) := by decide +kernel
theorem dX0_init_29 : decode cX0_init 29 = .ok (.aload_n 0, 1) := by decide +kernel
theorem dX0_init_30 : decode cX0_init 30 = .ok (.iconst 0, 1) := by decide +kernel
theorem dX0_init_31 : decode cX0_init 31 = .ok (.putfield 27, 3) := by decide +kernel
theorem dX0_init_34 : decode cX0_init 34 = .ok (.aload_n 0, 1) := by decide +kernel
theorem dX0_init_35 : decode cX0_init 35 = .ok (.iconst 0, 1) := by decide +kernel
theorem dX0_init_36 : decode cX0_init 36 = .ok (.putfield 30, 3) := by decide +kernel
theorem dX0_init_39 : decode cX0_init 39 = .ok (.aload_n 0, 1) := by decide +kernel
theorem dX0_init_40 : decode cX0_init 40 = .ok (.new 33, 3) := by decide +kernel
theorem dX0_init_43 : decode cX0_init 43 = .ok (.dup, 1) := by decide +kernel
theorem dX0_init_44 : decode cX0_init 44 = .ok (.bipush 67, 2) := by decide +kernel
theorem dX0_init_46 : decode cX0_init 46 = .ok (.invokespecial 35, 3) := by decide +kernel
theorem dX0_init_49 : decode cX0_init 49 = .ok (.putfield 38, 3) := by decide +kernel
theorem dX0_init_52 : decode cX0_init 52 = .ok (.aload_n 0, 1) := by decide +kernel
theorem dX0_init_53 : decode cX0_init 53 = .ok (.new 33, 3) := by decide +kernel
theorem dX0_init_56 : decode cX0_init 56 = .ok (.dup, 1) := by decide +kernel
theorem dX0_init_57 : decode cX0_init 57 = .ok (.bipush 10, 2) := by decide +kernel
theorem dX0_init_59 : decode cX0_init 59 = .ok (.invokespecial 35, 3) := by decide +kernel
theorem dX0_init_62 : decode cX0_init 62 = .ok (.putfield 42, 3) := by decide +kernel
theorem dX0_init_65 : decode cX0_init 65 = .ok (.aload_n 0, 1) := by decide +kernel
theorem dX0_init_66 : decode cX0_init 66 = .ok (.new 33, 3) := by decide +kernel
theorem dX0_init_69 : decode cX0_init 69 = .ok (.dup, 1) := by decide +kernel
theorem dX0_init_70 : decode cX0_init 70 = .ok (.iconst 4, 1) := by decide +kernel
theorem dX0_init_71 : decode cX0_init 71 = .ok (.invokespecial 35, 3) := by decide +kernel
theorem dX0_init_74 : decode cX0_init 74 = .ok (.putfield 45, 3) := by decide +kernel
theorem dX0_init_77 : decode cX0_init 77 = .ok (.aload_n 0, 1) := by decide +kernel
theorem dX0_init_78 : decode cX0_init 78 = .ok (.new 33, 3) := by decide +kernel
theorem dX0_init_81 : decode cX0_init 81 = .ok (.dup, 1) := by decide +kernel
theorem dX0_init_82 : decode cX0_init 82 = .ok (.iconst 3, 1) := by decide +kernel
theorem dX0_init_83 : decode cX0_init 83 = .ok (.invokespecial 35, 3) := by decide +kernel
theorem dX0_init_86 : decode cX0_init 86 = .ok (.putfield 48, 3) := by decide +kernel
theorem dX0_init_89 : decode cX0_init 89 = .ok (.aload_n 0, 1) := by decide +kernel
theorem dX0_init_90 : decode cX0_init 90 = .ok (.new 33, 3) := by decide +kernel
theorem dX0_init_93 : decode cX0_init 93 = .ok (.dup, 1) := by decide +kernel
theorem dX0_init_94 : decode cX0_init 94 = .ok (.bipush 12, 2) := by decide +kernel
theorem dX0_init_96 : decode cX0_init 96 = .ok (.invokespecial 35, 3) := by decide +kernel
theorem dX0_init_99 : decode cX0_init 99 = .ok (.putfield 51, 3) := by decide +kernel
theorem dX0_init_102 : decode cX0_init 102 = .ok (.aload_n 0, 1) := by decide +kernel
theorem dX0_init_103 : decode cX0_init 103 = .ok (.new 33, 3) := by decide +kernel
theorem dX0_init_106 : decode cX0_init 106 = .ok (.dup, 1) := by decide +kernel
theorem dX0_init_107 : decode cX0_init 107 = .ok (.bipush 84, 2) := by decide +kernel
theorem dX0_init_109 : decode cX0_init 109 = .ok (.invokespecial 35, 3) := by decide +kernel
theorem dX0_init_112 : decode cX0_init 112 = .ok (.putfield 54, 3) := by decide +kernel
theorem dX0_init_115 : decode cX0_init 115 = .ok (.aload_n 0, 1) := by decide +kernel
theorem dX0_init_116 : decode cX0_init 116 = .ok (.new 33, 3) := by decide +kernel
theorem dX0_init_119 : decode cX0_init 119 = .ok (.dup, 1) := by decide +kernel
theorem dX0_init_120 : decode cX0_init 120 = .ok (.bipush 7, 2) := by decide +kernel
theorem dX0_init_122 : decode cX0_init 122 = .ok (.invokespecial 35, 3) := by decide +kernel
theorem dX0_init_125 : decode cX0_init 125 = .ok (.putfield 57, 3) := by decide +kernel
theorem dX0_init_128 : decode cX0_init 128 = .ok (.aload_n 0, 1) := by decide +kernel
theorem dX0_init_129 : decode cX0_init 129 = .ok (.aload_n 1, 1) := by decide +kernel
theorem dX0_init_130 : decode cX0_init 130 = .ok (.putfield 60, 3) := by decide +kernel
theorem dX0_init_133 : decode cX0_init 133 = .ok (.aload_n 0, 1) := by decide +kernel
theorem dX0_init_134 : decode cX0_init 134 = .ok (.aload_n 2, 1) := by decide +kernel
theorem dX0_init_135 : decode cX0_init 135 = .ok (.putfield 64, 3) := by decide +kernel
theorem dX0_init_138 : decode cX0_init 138 = .ok (.return_, 1) := by decide +kernel
set_option maxRecDepth 20000 in
theorem ggX0_fact_X4_read : GoodIn wsX0_fact wsX4_read := goodIn_r _ [6, 7, 24] (by decide +kernel) (by decide +kernel)
set_option maxRecDepth 20000 in
theorem gX0_fact_X4_read : GoodIn wsX0_fact (wsV RX0 68 RX4 yX4_read wsX4_read) := goodIn_app (goodIn_of _ (by decide +kernel)) ggX0_fact_X4_read
theorem dX0_fact_0 : decode cX0_fact 0 = .ok (.aload_n 0, 1) := by decide +kernel
theorem dX0_fact_1 : decode cX0_fact 1 = .ok (.getfield 54, 3) := by decide +kernel
theorem dX0_fact_4 : decode cX0_fact 4 = .ok (.iload_n 1, 1) := by decide +kernel
theorem dX0_fact_5 : decode cX0_fact 5 = .ok (.bipush 7, 2) := by decide +kernel
theorem dX0_fact_7 : decode cX0_fact 7 = .ok (.imul, 1) := by decide +kernel
theorem dX0_fact_8 : decode cX0_fact 8 = .ok (.iload_n 2, 1) := by decide +kernel
theorem dX0_fact_9 : decode cX0_fact 9 = .ok (.iadd, 1) := by decide +kernel
theorem dX0_fact_10 : decode cX0_fact 10 = .ok (.invokevirtual 68, 3) := by decide +kernel
theorem dX0_fact_13 : decode cX0_fact 13 = .ok (.ireturn, 1) := by decide +kernel
set_option maxRecDepth 20000 in
theorem ggX0_note_X4_write : GoodIn wsX0_note wsX4_write := goodIn_r _ [6, 7, 24] (by decide +kernel) (by decide +kernel)
set_option maxRecDepth 20000 in
theorem gX0_note_X4_write : GoodIn wsX0_note (wsV RX0 72 RX4 yX4_write wsX4_write) := goodIn_app (goodIn_of _ (by decide +kernel)) ggX0_note_X4_write
theorem dX0_note_0 : decode cX0_note 0 = .ok (.aload_n 0, 1) := by decide +kernel
theorem dX0_note_1 : decode cX0_note 1 = .ok (.getfield 54, 3) := by decide +kernel
theorem dX0_note_4 : decode cX0_note 4 = .ok (.iload_n 1, 1) := by decide +kernel
theorem dX0_note_5 : decode cX0_note 5 = .ok (.bipush 7, 2) := by decide +kernel
theorem dX0_note_7 : decode cX0_note 7 = .ok (.imul, 1) := by decide +kernel
theorem dX0_note_8 : decode cX0_note 8 = .ok (.iload_n 2, 1) := by decide +kernel
theorem dX0_note_9 : decode cX0_note 9 = .ok (.iadd, 1) := by decide +kernel
theorem dX0_note_10 : decode cX0_note 10 = .ok (.iload_n 3, 1) := by decide +kernel
theorem dX0_note_11 : decode cX0_note 11 = .ok (.invokevirtual 72, 3) := by decide +kernel
theorem dX0_note_14 : decode cX0_note 14 = .ok (.return_, 1) := by decide +kernel
set_option maxRecDepth 20000 in
theorem ggX0_addTotal_X4_read : GoodIn wsX0_addTotal wsX4_read := goodIn_r _ [6, 7, 28] (by decide +kernel) (by decide +kernel)
set_option maxRecDepth 20000 in
theorem gX0_addTotal_X4_read : GoodIn wsX0_addTotal (wsV RX0 68 RX4 yX4_read wsX4_read) := goodIn_app (goodIn_of _ (by decide +kernel)) ggX0_addTotal_X4_read
set_option maxRecDepth 20000 in
theorem ggX0_addTotal_X4_write : GoodIn wsX0_addTotal wsX4_write := goodIn_r _ [11, 7, 28] (by decide +kernel) (by decide +kernel)
set_option maxRecDepth 20000 in
theorem gX0_addTotal_X4_write : GoodIn wsX0_addTotal (wsV RX0 72 RX4 yX4_write wsX4_write) := goodIn_app (goodIn_of _ (by decide +kernel)) ggX0_addTotal_X4_write
theorem dX0_addTotal_0 : decode cX0_addTotal 0 = .ok (.aload_n 0, 1) := by decide +kernel
theorem dX0_addTotal_1 : decode cX0_addTotal 1 = .ok (.getfield 57, 3) := by decide +kernel
theorem dX0_addTotal_4 : decode cX0_addTotal 4 = .ok (.iload_n 1, 1) := by decide +kernel
theorem dX0_addTotal_5 : decode cX0_addTotal 5 = .ok (.aload_n 0, 1) := by decide +kernel
theorem dX0_addTotal_6 : decode cX0_addTotal 6 = .ok (.getfield 57, 3) := by decide +kernel
theorem dX0_addTotal_9 : decode cX0_addTotal 9 = .ok (.iload_n 1, 1) := by decide +kernel
theorem dX0_addTotal_10 : decode cX0_addTotal 10 = .ok (.invokevirtual 68, 3) := by decide +kernel
theorem dX0_addTotal_13 : decode cX0_addTotal 13 = .ok (.iload_n 2, 1) := by decide +kernel
theorem dX0_addTotal_14 : decode cX0_addTotal 14 = .ok (.iadd, 1) := by decide +kernel
theorem dX0_addTotal_15 : decode cX0_addTotal 15 = .ok (.invokevirtual 72, 3) := by decide +kernel
theorem dX0_addTotal_18 : decode cX0_addTotal 18 = .ok (.return_, 1) := by decide +kernel
set_option maxRecDepth 20000 in
theorem ggX0_washOrder_X0_clear : GoodIn wsX0_washOrder wsX0_clear := goodIn_r _ [10, 11, 12, 2, 3, 13, 14, 15, 16, 17, 18, 19, 20, 21, 22, 131, 132, 133, 134, 135, 136, 137, 138, 139, 140, 141, 142, 143, 144, 145, 146, 152] (by decide +kernel) (by decide +kernel)
set_option maxRecDepth 20000 in
theorem gX0_washOrder_X0_clear : GoodIn wsX0_washOrder (wsV RX0 76 RX0 yX0_clear wsX0_clear) := goodIn_app (goodIn_of _ (by decide +kernel)) ggX0_washOrder_X0_clear
set_option maxRecDepth 20000 in
theorem ggX0_washOrder_X0_lineUp : GoodIn wsX0_washOrder wsX0_lineUp := goodIn_r _ [26, 1, 27, 28, 29, 30, 20, 31, 22, 32, 33, 34, 35, 36, 37, 38, 39, 40, 41, 42, 43, 44, 45, 46, 47, 48, 49, 50, 51, 52, 53, 54, 55, 56, 57, 58, 59, 60, 61, 62, 63, 9, 64, 65, 11, 66, 67, 68, 69, 70, 71, 72, 73, 13, 74, 75, 76, 77, 3, 131, 132, 133, 134, 135, 136, 137, 138, 139, 140, 141, 142, 143, 144, 145, 146, 147, 148, 149, 150, 151, 152, 153, 154, 155, 156, 157, 158] (by decide +kernel) (by decide +kernel)
set_option maxRecDepth 20000 in
theorem gX0_washOrder_X0_lineUp : GoodIn wsX0_washOrder (wsV RX0 84 RX0 yX0_lineUp wsX0_lineUp) := goodIn_app (goodIn_of _ (by decide +kernel)) ggX0_washOrder_X0_lineUp
set_option maxRecDepth 20000 in
theorem ggX0_washOrder_X4_read : GoodIn wsX0_washOrder wsX4_read := goodIn_r _ [31, 22, 152] (by decide +kernel) (by decide +kernel)
set_option maxRecDepth 20000 in
theorem gX0_washOrder_X4_read : GoodIn wsX0_washOrder (wsV RX0 68 RX4 yX4_read wsX4_read) := goodIn_app (goodIn_of _ (by decide +kernel)) ggX0_washOrder_X4_read
set_option maxRecDepth 20000 in
theorem ggX0_washOrder_X0_doBeat : GoodIn wsX0_washOrder wsX0_doBeat := goodIn_r _ [81, 14, 82, 83, 28, 29, 30, 20, 31, 22, 84, 85, 86, 9, 87, 13, 88, 89, 90, 91, 92, 15, 74, 75, 76, 77, 3, 66, 67, 68, 69, 93, 94, 95, 96, 2, 70, 71, 72, 73, 97, 98, 99, 100, 12, 11, 65, 101, 102, 103, 104, 27, 105, 106, 107, 108, 109, 110, 111, 112, 131, 132, 133, 134, 135, 136, 137, 138, 139, 140, 141, 142, 143, 144, 145, 146, 153, 154, 155, 156, 157, 158, 152] (by decide +kernel) (by decide +kernel)
set_option maxRecDepth 20000 in
theorem gX0_washOrder_X0_doBeat : GoodIn wsX0_washOrder (wsV RX0 88 RX0 yX0_doBeat wsX0_doBeat) := goodIn_app (goodIn_of _ (by decide +kernel)) ggX0_washOrder_X0_doBeat
set_option maxRecDepth 20000 in
theorem ggX0_washOrder_X4_write : GoodIn wsX0_washOrder wsX4_write := goodIn_r _ [69, 22, 152] (by decide +kernel) (by decide +kernel)
set_option maxRecDepth 20000 in
theorem gX0_washOrder_X4_write : GoodIn wsX0_washOrder (wsV RX0 72 RX4 yX4_write wsX4_write) := goodIn_app (goodIn_of _ (by decide +kernel)) ggX0_washOrder_X4_write
set_option maxRecDepth 20000 in
theorem ggX0_washOrder_X0_ironAll : GoodIn wsX0_washOrder wsX0_ironAll := goodIn_r _ [116, 3, 117, 52, 53, 54, 28, 29, 30, 20, 31, 22, 118, 119, 120, 9, 121, 84, 85, 86, 87, 13, 122, 123, 124, 125, 83, 16, 70, 71, 72, 73, 66, 67, 68, 69, 126, 127, 128, 129, 130, 131, 132, 133, 134, 135, 136, 137, 138, 139, 140, 141, 142, 143, 144, 145, 146, 152, 153, 154, 155, 156, 157, 158] (by decide +kernel) (by decide +kernel)
set_option maxRecDepth 20000 in
theorem gX0_washOrder_X0_ironAll : GoodIn wsX0_washOrder (wsV RX0 91 RX0 yX0_ironAll wsX0_ironAll) := goodIn_app (goodIn_of _ (by decide +kernel)) ggX0_washOrder_X0_ironAll
theorem dX0_washOrder_0 : decode cX0_washOrder 0 = .ok (.aload_n 0, 1) := by decide +kernel
theorem dX0_washOrder_1 : decode cX0_washOrder 1 = .ok (.invokevirtual 76, 3) := by decide +kernel
theorem dX0_washOrder_4 : decode cX0_washOrder 4 = .ok (.iconst 0, 1) := by decide +kernel
theorem dX0_washOrder_5 : decode cX0_washOrder 5 = .ok (.istore_n 1, 1) := by decide +kernel
theorem dX0_washOrder_6 : decode cX0_washOrder 6 = .ok (.iload_n 1, 1) := by decide +kernel
theorem dX0_washOrder_7 : decode cX0_washOrder 7 = .ok (.aload_n 0, 1) := by decide +kernel
theorem dX0_washOrder_8 : decode cX0_washOrder 8 = .ok (.getfield 64, 3) := by decide +kernel
theorem dX0_washOrder_11 : decode cX0_washOrder 11 = .ok (.getfield 79, 3) := by decide +kernel
theorem dX0_washOrder_14 : decode cX0_washOrder 14 = .ok (.if_icmp .ge 14, 3) := by decide +kernel
theorem dX0_washOrder_17 : decode cX0_washOrder 17 = .ok (.aload_n 0, 1) := by decide +kernel
theorem dX0_washOrder_18 : decode cX0_washOrder 18 = .ok (.iload_n 1, 1) := by decide +kernel
theorem dX0_washOrder_19 : decode cX0_washOrder 19 = .ok (.invokevirtual 84, 3) := by decide +kernel
theorem dX0_washOrder_22 : decode cX0_washOrder 22 = .ok (.iinc 1 1, 3) := by decide +kernel
theorem dX0_washOrder_25 : decode cX0_washOrder 25 = .ok (.goto (-19), 3) := by decide +kernel
theorem dX0_washOrder_28 : decode cX0_washOrder 28 = .ok (.iconst 0, 1) := by decide +kernel
theorem dX0_washOrder_29 : decode cX0_washOrder 29 = .ok (.istore_n 1, 1) := by decide +kernel
theorem dX0_washOrder_30 : decode cX0_washOrder 30 = .ok (.aload_n 0, 1) := by decide +kernel
theorem dX0_washOrder_31 : decode cX0_washOrder 31 = .ok (.getfield 30, 3) := by decide +kernel
theorem dX0_washOrder_34 : decode cX0_washOrder 34 = .ok (.aload_n 0, 1) := by decide +kernel
theorem dX0_washOrder_35 : decode cX0_washOrder 35 = .ok (.getfield 57, 3) := by decide +kernel
theorem dX0_washOrder_38 : decode cX0_washOrder 38 = .ok (.iconst 5, 1) := by decide +kernel
theorem dX0_washOrder_39 : decode cX0_washOrder 39 = .ok (.invokevirtual 68, 3) := by decide +kernel
theorem dX0_washOrder_42 : decode cX0_washOrder 42 = .ok (.if_icmp .ge 20, 3) := by decide +kernel
theorem dX0_washOrder_45 : decode cX0_washOrder 45 = .ok (.iload_n 1, 1) := by decide +kernel
theorem dX0_washOrder_46 : decode cX0_washOrder 46 = .ok (.ldc 87, 2) := by decide +kernel
theorem dX0_washOrder_48 : decode cX0_washOrder 48 = .ok (.if_icmp .ge 14, 3) := by decide +kernel
theorem dX0_washOrder_51 : decode cX0_washOrder 51 = .ok (.iinc 1 1, 3) := by decide +kernel
theorem dX0_washOrder_54 : decode cX0_washOrder 54 = .ok (.aload_n 0, 1) := by decide +kernel
theorem dX0_washOrder_55 : decode cX0_washOrder 55 = .ok (.iload_n 1, 1) := by decide +kernel
theorem dX0_washOrder_56 : decode cX0_washOrder 56 = .ok (.invokevirtual 88, 3) := by decide +kernel
theorem dX0_washOrder_59 : decode cX0_washOrder 59 = .ok (.goto (-29), 3) := by decide +kernel
theorem dX0_washOrder_62 : decode cX0_washOrder 62 = .ok (.aload_n 0, 1) := by decide +kernel
theorem dX0_washOrder_63 : decode cX0_washOrder 63 = .ok (.getfield 57, 3) := by decide +kernel
theorem dX0_washOrder_66 : decode cX0_washOrder 66 = .ok (.iconst 0, 1) := by decide +kernel
theorem dX0_washOrder_67 : decode cX0_washOrder 67 = .ok (.iload_n 1, 1) := by decide +kernel
theorem dX0_washOrder_68 : decode cX0_washOrder 68 = .ok (.invokevirtual 72, 3) := by decide +kernel
theorem dX0_washOrder_71 : decode cX0_washOrder 71 = .ok (.aload_n 0, 1) := by decide +kernel
theorem dX0_washOrder_72 : decode cX0_washOrder 72 = .ok (.invokevirtual 91, 3) := by decide +kernel
theorem dX0_washOrder_75 : decode cX0_washOrder 75 = .ok (.aload_n 0, 1) := by decide +kernel
theorem dX0_washOrder_76 : decode cX0_washOrder 76 = .ok (.dup, 1) := by decide +kernel
theorem dX0_washOrder_77 : decode cX0_washOrder 77 = .ok (.getfield 21, 3) := by decide +kernel
theorem dX0_washOrder_80 : decode cX0_washOrder 80 = .ok (.iconst 1, 1) := by decide +kernel
theorem dX0_washOrder_81 : decode cX0_washOrder 81 = .ok (.iadd, 1) := by decide +kernel
theorem dX0_washOrder_82 : decode cX0_washOrder 82 = .ok (.putfield 21, 3) := by decide +kernel
theorem dX0_washOrder_85 : decode cX0_washOrder 85 = .ok (.iload_n 1, 1) := by decide +kernel
theorem dX0_washOrder_86 : decode cX0_washOrder 86 = .ok (.ireturn, 1) := by decide +kernel
set_option maxRecDepth 20000 in
theorem ggX0_clear_X4_fill : GoodIn wsX0_clear wsX4_fill := goodIn_r _ [13, 14, 31] (by decide +kernel) (by decide +kernel)
set_option maxRecDepth 20000 in
theorem gX0_clear_X4_fill : GoodIn wsX0_clear (wsV RX0 94 RX4 yX4_fill wsX4_fill) := goodIn_app (goodIn_of _ (by decide +kernel)) ggX0_clear_X4_fill
theorem dX0_clear_0 : decode cX0_clear 0 = .ok (.aload_n 0, 1) := by decide +kernel
theorem dX0_clear_1 : decode cX0_clear 1 = .ok (.iconst 0, 1) := by decide +kernel
theorem dX0_clear_2 : decode cX0_clear 2 = .ok (.putfield 24, 3) := by decide +kernel
theorem dX0_clear_5 : decode cX0_clear 5 = .ok (.aload_n 0, 1) := by decide +kernel
theorem dX0_clear_6 : decode cX0_clear 6 = .ok (.iconst 0, 1) := by decide +kernel
theorem dX0_clear_7 : decode cX0_clear 7 = .ok (.putfield 27, 3) := by decide +kernel
theorem dX0_clear_10 : decode cX0_clear 10 = .ok (.aload_n 0, 1) := by decide +kernel
theorem dX0_clear_11 : decode cX0_clear 11 = .ok (.iconst 0, 1) := by decide +kernel
theorem dX0_clear_12 : decode cX0_clear 12 = .ok (.putfield 30, 3) := by decide +kernel
theorem dX0_clear_15 : decode cX0_clear 15 = .ok (.aload_n 0, 1) := by decide +kernel
theorem dX0_clear_16 : decode cX0_clear 16 = .ok (.getfield 57, 3) := by decide +kernel
theorem dX0_clear_19 : decode cX0_clear 19 = .ok (.iconst 0, 1) := by decide +kernel
theorem dX0_clear_20 : decode cX0_clear 20 = .ok (.invokevirtual 94, 3) := by decide +kernel
theorem dX0_clear_23 : decode cX0_clear 23 = .ok (.aload_n 0, 1) := by decide +kernel
theorem dX0_clear_24 : decode cX0_clear 24 = .ok (.getfield 54, 3) := by decide +kernel
theorem dX0_clear_27 : decode cX0_clear 27 = .ok (.iconst (-1), 1) := by decide +kernel
theorem dX0_clear_28 : decode cX0_clear 28 = .ok (.invokevirtual 94, 3) := by decide +kernel
theorem dX0_clear_31 : decode cX0_clear 31 = .ok (.aload_n 0, 1) := by decide +kernel
theorem dX0_clear_32 : decode cX0_clear 32 = .ok (.getfield 42, 3) := by decide +kernel
theorem dX0_clear_35 : decode cX0_clear 35 = .ok (.iconst (-1), 1) := by decide +kernel
theorem dX0_clear_36 : decode cX0_clear 36 = .ok (.invokevirtual 94, 3) := by decide +kernel
theorem dX0_clear_39 : decode cX0_clear 39 = .ok (.aload_n 0, 1) := by decide +kernel
theorem dX0_clear_40 : decode cX0_clear 40 = .ok (.getfield 45, 3) := by decide +kernel
theorem dX0_clear_43 : decode cX0_clear 43 = .ok (.iconst 0, 1) := by decide +kernel
theorem dX0_clear_44 : decode cX0_clear 44 = .ok (.invokevirtual 94, 3) := by decide +kernel
theorem dX0_clear_47 : decode cX0_clear 47 = .ok (.aload_n 0, 1) := by decide +kernel
theorem dX0_clear_48 : decode cX0_clear 48 = .ok (.getfield 48, 3) := by decide +kernel
theorem dX0_clear_51 : decode cX0_clear 51 = .ok (.iconst 0, 1) := by decide +kernel
theorem dX0_clear_52 : decode cX0_clear 52 = .ok (.invokevirtual 94, 3) := by decide +kernel
theorem dX0_clear_55 : decode cX0_clear 55 = .ok (.return_, 1) := by decide +kernel
set_option maxRecDepth 20000 in
theorem ggX0_lineUp_X4_read : GoodIn wsX0_lineUp wsX4_read := goodIn_r _ [7, 8, 80] (by decide +kernel) (by decide +kernel)
set_option maxRecDepth 20000 in
theorem gX0_lineUp_X4_read : GoodIn wsX0_lineUp (wsV RX0 68 RX4 yX4_read wsX4_read) := goodIn_app (goodIn_of _ (by decide +kernel)) ggX0_lineUp_X4_read
set_option maxRecDepth 20000 in
theorem ggX0_lineUp_X6_gapAhead : GoodIn wsX0_lineUp wsX6_gapAhead := goodIn_r _ [13, 14, 15, 4, 5, 6, 7, 8, 16, 17, 18, 12, 19, 20, 21, 22, 23, 24, 25, 26, 27, 28, 29, 30, 31, 32, 33, 34, 35, 36, 37, 75, 76, 77, 78, 79, 80, 81, 82, 83, 84, 85, 86] (by decide +kernel) (by decide +kernel)
set_option maxRecDepth 20000 in
theorem gX0_lineUp_X6_gapAhead : GoodIn wsX0_lineUp (wsV RX0 101 RX6 yX6_gapAhead wsX6_gapAhead) := goodIn_app (goodIn_of _ (by decide +kernel)) ggX0_lineUp_X6_gapAhead
set_option maxRecDepth 20000 in
theorem ggX0_lineUp_X0_addSlot : GoodIn wsX0_lineUp wsX0_addSlot := goodIn_r _ [42, 43, 44, 45, 46, 47, 6, 48, 8, 59, 60, 61, 62, 63, 64, 65, 66, 67, 68, 69, 70, 71, 72, 73, 74, 80] (by decide +kernel) (by decide +kernel)
set_option maxRecDepth 20000 in
theorem gX0_lineUp_X0_addSlot : GoodIn wsX0_lineUp (wsV RX0 104 RX0 yX0_addSlot wsX0_addSlot) := goodIn_app (goodIn_of _ (by decide +kernel)) ggX0_lineUp_X0_addSlot
set_option maxRecDepth 20000 in
theorem ggX0_lineUp_X0_note : GoodIn wsX0_lineUp wsX0_note := goodIn_r _ [52, 53, 45, 46, 47, 6, 48, 8, 59, 60, 61, 62, 63, 64, 65, 66, 67, 68, 69, 70, 71, 72, 73, 74, 80] (by decide +kernel) (by decide +kernel)
set_option maxRecDepth 20000 in
theorem gX0_lineUp_X0_note : GoodIn wsX0_lineUp (wsV RX0 110 RX0 yX0_note wsX0_note) := goodIn_app (goodIn_of _ (by decide +kernel)) ggX0_lineUp_X0_note
set_option maxRecDepth 20000 in
theorem ggX0_lineUp_X4_write : GoodIn wsX0_lineUp wsX4_write := goodIn_r _ [48, 8, 80] (by decide +kernel) (by decide +kernel)
set_option maxRecDepth 20000 in
theorem gX0_lineUp_X4_write : GoodIn wsX0_lineUp (wsV RX0 72 RX4 yX4_write wsX4_write) := goodIn_app (goodIn_of _ (by decide +kernel)) ggX0_lineUp_X4_write
set_option maxRecDepth 20000 in
theorem ggX0_lineUp_X0_addTotal : GoodIn wsX0_lineUp wsX0_addTotal := goodIn_r _ [57, 58, 3, 4, 5, 6, 7, 8, 45, 46, 47, 48, 59, 60, 61, 62, 63, 64, 65, 66, 67, 68, 69, 70, 71, 72, 73, 74, 80] (by decide +kernel) (by decide +kernel)
set_option maxRecDepth 20000 in
theorem gX0_lineUp_X0_addTotal : GoodIn wsX0_lineUp (wsV RX0 114 RX0 yX0_addTotal wsX0_addTotal) := goodIn_app (goodIn_of _ (by decide +kernel)) ggX0_lineUp_X0_addTotal
theorem dX0_lineUp_0 : decode cX0_lineUp 0 = .ok (.aload_n 0, 1) := by decide +kernel
theorem dX0_lineUp_1 : decode cX0_lineUp 1 = .ok (.getfield 64, 3) := by decide +kernel
theorem dX0_lineUp_4 : decode cX0_lineUp 4 = .ok (.getfield 97, 3) := by decide +kernel
theorem dX0_lineUp_7 : decode cX0_lineUp 7 = .ok (.iload_n 1, 1) := by decide +kernel
theorem dX0_lineUp_8 : decode cX0_lineUp 8 = .ok (.invokevirtual 68, 3) := by decide +kernel
theorem dX0_lineUp_11 : decode cX0_lineUp 11 = .ok (.istore_n 2, 1) := by decide +kernel
theorem dX0_lineUp_12 : decode cX0_lineUp 12 = .ok (.aload_n 0, 1) := by decide +kernel
theorem dX0_lineUp_13 : decode cX0_lineUp 13 = .ok (.getfield 64, 3) := by decide +kernel
theorem dX0_lineUp_16 : decode cX0_lineUp 16 = .ok (.getfield 100, 3) := by decide +kernel
theorem dX0_lineUp_19 : decode cX0_lineUp 19 = .ok (.iload_n 2, 1) := by decide +kernel
theorem dX0_lineUp_20 : decode cX0_lineUp 20 = .ok (.invokevirtual 68, 3) := by decide +kernel
theorem dX0_lineUp_23 : decode cX0_lineUp 23 = .ok (.istore_n 3, 1) := by decide +kernel
theorem dX0_lineUp_24 : decode cX0_lineUp 24 = .ok (.aload_n 0, 1) := by decide +kernel
theorem dX0_lineUp_25 : decode cX0_lineUp 25 = .ok (.getfield 64, 3) := by decide +kernel
theorem dX0_lineUp_28 : decode cX0_lineUp 28 = .ok (.iload_n 1, 1) := by decide +kernel
theorem dX0_lineUp_29 : decode cX0_lineUp 29 = .ok (.invokevirtual 101, 3) := by decide +kernel
theorem dX0_lineUp_32 : decode cX0_lineUp 32 = .ok (.istore 4, 2) := by decide +kernel
theorem dX0_lineUp_34 : decode cX0_lineUp 34 = .ok (.iconst 0, 1) := by decide +kernel
theorem dX0_lineUp_35 : decode cX0_lineUp 35 = .ok (.istore 5, 2) := by decide +kernel
theorem dX0_lineUp_37 : decode cX0_lineUp 37 = .ok (.iload 5, 2) := by decide +kernel
theorem dX0_lineUp_39 : decode cX0_lineUp 39 = .ok (.iload 4, 2) := by decide +kernel
theorem dX0_lineUp_41 : decode cX0_lineUp 41 = .ok (.if_icmp .ge 14, 3) := by decide +kernel
theorem dX0_lineUp_44 : decode cX0_lineUp 44 = .ok (.aload_n 0, 1) := by decide +kernel
theorem dX0_lineUp_45 : decode cX0_lineUp 45 = .ok (.iconst (-1), 1) := by decide +kernel
theorem dX0_lineUp_46 : decode cX0_lineUp 46 = .ok (.invokevirtual 104, 3) := by decide +kernel
theorem dX0_lineUp_49 : decode cX0_lineUp 49 = .ok (.iinc 5 1, 3) := by decide +kernel
theorem dX0_lineUp_52 : decode cX0_lineUp 52 = .ok (.goto (-15), 3) := by decide +kernel
theorem dX0_lineUp_55 : decode cX0_lineUp 55 = .ok (.aload_n 0, 1) := by decide +kernel
theorem dX0_lineUp_56 : decode cX0_lineUp 56 = .ok (.iload_n 1, 1) := by decide +kernel
theorem dX0_lineUp_57 : decode cX0_lineUp 57 = .ok (.invokevirtual 104, 3) := by decide +kernel
theorem dX0_lineUp_60 : decode cX0_lineUp 60 = .ok (.aload_n 0, 1) := by decide +kernel
theorem dX0_lineUp_61 : decode cX0_lineUp 61 = .ok (.iload_n 1, 1) := by decide +kernel
theorem dX0_lineUp_62 : decode cX0_lineUp 62 = .ok (.iconst 0, 1) := by decide +kernel
theorem dX0_lineUp_63 : decode cX0_lineUp 63 = .ok (.aload_n 0, 1) := by decide +kernel
theorem dX0_lineUp_64 : decode cX0_lineUp 64 = .ok (.getfield 64, 3) := by decide +kernel
theorem dX0_lineUp_67 : decode cX0_lineUp 67 = .ok (.getfield 107, 3) := by decide +kernel
theorem dX0_lineUp_70 : decode cX0_lineUp 70 = .ok (.iload_n 2, 1) := by decide +kernel
theorem dX0_lineUp_71 : decode cX0_lineUp 71 = .ok (.invokevirtual 68, 3) := by decide +kernel
theorem dX0_lineUp_74 : decode cX0_lineUp 74 = .ok (.invokevirtual 110, 3) := by decide +kernel
theorem dX0_lineUp_77 : decode cX0_lineUp 77 = .ok (.aload_n 0, 1) := by decide +kernel
theorem dX0_lineUp_78 : decode cX0_lineUp 78 = .ok (.getfield 51, 3) := by decide +kernel
theorem dX0_lineUp_81 : decode cX0_lineUp 81 = .ok (.iload_n 1, 1) := by decide +kernel
theorem dX0_lineUp_82 : decode cX0_lineUp 82 = .ok (.iload_n 3, 1) := by decide +kernel
theorem dX0_lineUp_83 : decode cX0_lineUp 83 = .ok (.invokevirtual 72, 3) := by decide +kernel
theorem dX0_lineUp_86 : decode cX0_lineUp 86 = .ok (.aload_n 0, 1) := by decide +kernel
theorem dX0_lineUp_87 : decode cX0_lineUp 87 = .ok (.iconst 1, 1) := by decide +kernel
theorem dX0_lineUp_88 : decode cX0_lineUp 88 = .ok (.iload 4, 2) := by decide +kernel
theorem dX0_lineUp_90 : decode cX0_lineUp 90 = .ok (.invokevirtual 114, 3) := by decide +kernel
theorem dX0_lineUp_93 : decode cX0_lineUp 93 = .ok (.aload_n 0, 1) := by decide +kernel
theorem dX0_lineUp_94 : decode cX0_lineUp 94 = .ok (.iconst 5, 1) := by decide +kernel
theorem dX0_lineUp_95 : decode cX0_lineUp 95 = .ok (.iconst 1, 1) := by decide +kernel
theorem dX0_lineUp_96 : decode cX0_lineUp 96 = .ok (.invokevirtual 114, 3) := by decide +kernel
theorem dX0_lineUp_99 : decode cX0_lineUp 99 = .ok (.aload_n 0, 1) := by decide +kernel
theorem dX0_lineUp_100 : decode cX0_lineUp 100 = .ok (.bipush 6, 2) := by decide +kernel
theorem dX0_lineUp_102 : decode cX0_lineUp 102 = .ok (.iload_n 3, 1) := by decide +kernel
theorem dX0_lineUp_103 : decode cX0_lineUp 103 = .ok (.invokevirtual 114, 3) := by decide +kernel
theorem dX0_lineUp_106 : decode cX0_lineUp 106 = .ok (.return_, 1) := by decide +kernel
set_option maxRecDepth 20000 in
theorem ggX0_addSlot_X4_write : GoodIn wsX0_addSlot wsX4_write := goodIn_r _ [7, 8, 25] (by decide +kernel) (by decide +kernel)
set_option maxRecDepth 20000 in
theorem gX0_addSlot_X4_write : GoodIn wsX0_addSlot (wsV RX0 72 RX4 yX4_write wsX4_write) := goodIn_app (goodIn_of _ (by decide +kernel)) ggX0_addSlot_X4_write
theorem dX0_addSlot_0 : decode cX0_addSlot 0 = .ok (.aload_n 0, 1) := by decide +kernel
theorem dX0_addSlot_1 : decode cX0_addSlot 1 = .ok (.getfield 38, 3) := by decide +kernel
theorem dX0_addSlot_4 : decode cX0_addSlot 4 = .ok (.aload_n 0, 1) := by decide +kernel
theorem dX0_addSlot_5 : decode cX0_addSlot 5 = .ok (.getfield 24, 3) := by decide +kernel
theorem dX0_addSlot_8 : decode cX0_addSlot 8 = .ok (.iload_n 1, 1) := by decide +kernel
theorem dX0_addSlot_9 : decode cX0_addSlot 9 = .ok (.invokevirtual 72, 3) := by decide +kernel
theorem dX0_addSlot_12 : decode cX0_addSlot 12 = .ok (.aload_n 0, 1) := by decide +kernel
theorem dX0_addSlot_13 : decode cX0_addSlot 13 = .ok (.dup, 1) := by decide +kernel
theorem dX0_addSlot_14 : decode cX0_addSlot 14 = .ok (.getfield 24, 3) := by decide +kernel
theorem dX0_addSlot_17 : decode cX0_addSlot 17 = .ok (.iconst 1, 1) := by decide +kernel
theorem dX0_addSlot_18 : decode cX0_addSlot 18 = .ok (.iadd, 1) := by decide +kernel
theorem dX0_addSlot_19 : decode cX0_addSlot 19 = .ok (.putfield 24, 3) := by decide +kernel
theorem dX0_addSlot_22 : decode cX0_addSlot 22 = .ok (.return_, 1) := by decide +kernel
set_option maxRecDepth 20000 in
theorem ggX0_doBeat_X4_read : GoodIn wsX0_doBeat wsX4_read := goodIn_r _ [8, 9, 82] (by decide +kernel) (by decide +kernel)
set_option maxRecDepth 20000 in
theorem gX0_doBeat_X4_read : GoodIn wsX0_doBeat (wsV RX0 68 RX4 yX4_read wsX4_read) := goodIn_app (goodIn_of _ (by decide +kernel)) ggX0_doBeat_X4_read
set_option maxRecDepth 20000 in
theorem ggX0_doBeat_X0_fact : GoodIn wsX0_doBeat wsX0_fact := goodIn_r _ [14, 15, 4, 5, 6, 7, 8, 9, 60, 61, 62, 63, 64, 65, 66, 67, 68, 69, 70, 71, 72, 73, 74, 75, 82] (by decide +kernel) (by decide +kernel)
set_option maxRecDepth 20000 in
theorem gX0_doBeat_X0_fact : GoodIn wsX0_doBeat (wsV RX0 122 RX0 yX0_fact wsX0_fact) := goodIn_app (goodIn_of _ (by decide +kernel)) ggX0_doBeat_X0_fact
set_option maxRecDepth 20000 in
theorem ggX0_doBeat_X0_freeDryer : GoodIn wsX0_doBeat wsX0_freeDryer := goodIn_r _ [19, 20, 21, 4, 5, 6, 7, 8, 9, 60, 61, 62, 63, 64, 65, 66, 67, 68, 69, 70, 71, 72, 73, 74, 75, 82] (by decide +kernel) (by decide +kernel)
set_option maxRecDepth 20000 in
theorem gX0_doBeat_X0_freeDryer : GoodIn wsX0_doBeat (wsV RX0 126 RX0 yX0_freeDryer wsX0_freeDryer) := goodIn_app (goodIn_of _ (by decide +kernel)) ggX0_doBeat_X0_freeDryer
set_option maxRecDepth 20000 in
theorem ggX0_doBeat_X0_addTotal : GoodIn wsX0_doBeat wsX0_addTotal := goodIn_r _ [25, 26, 4, 5, 6, 7, 8, 9, 27, 28, 29, 30, 60, 61, 62, 63, 64, 65, 66, 67, 68, 69, 70, 71, 72, 73, 74, 75, 82] (by decide +kernel) (by decide +kernel)
set_option maxRecDepth 20000 in
theorem gX0_doBeat_X0_addTotal : GoodIn wsX0_doBeat (wsV RX0 114 RX0 yX0_addTotal wsX0_addTotal) := goodIn_app (goodIn_of _ (by decide +kernel)) ggX0_doBeat_X0_addTotal
set_option maxRecDepth 20000 in
theorem ggX0_doBeat_X0_goOut : GoodIn wsX0_doBeat wsX0_goOut := goodIn_r _ [34, 35, 21, 36, 37, 38, 13, 39, 15, 27, 28, 29, 7, 30, 9, 60, 61, 62, 63, 64, 65, 66, 67, 68, 69, 70, 71, 72, 73, 74, 75, 82] (by decide +kernel) (by decide +kernel)
set_option maxRecDepth 20000 in
theorem gX0_doBeat_X0_goOut : GoodIn wsX0_doBeat (wsV RX0 129 RX0 yX0_goOut wsX0_goOut) := goodIn_app (goodIn_of _ (by decide +kernel)) ggX0_doBeat_X0_goOut
set_option maxRecDepth 20000 in
theorem ggX0_doBeat_X0_moveOn : GoodIn wsX0_doBeat wsX0_moveOn := goodIn_r _ [43, 2, 1, 44, 45, 46, 4, 5, 6, 7, 8, 9, 27, 28, 29, 30, 36, 37, 38, 13, 39, 15, 60, 61, 62, 63, 64, 65, 66, 67, 68, 69, 70, 71, 72, 73, 74, 75, 82] (by decide +kernel) (by decide +kernel)
set_option maxRecDepth 20000 in
theorem gX0_doBeat_X0_moveOn : GoodIn wsX0_doBeat (wsV RX0 133 RX0 yX0_moveOn wsX0_moveOn) := goodIn_app (goodIn_of _ (by decide +kernel)) ggX0_doBeat_X0_moveOn
set_option maxRecDepth 20000 in
theorem ggX0_doBeat_X0_waterOfBeat : GoodIn wsX0_doBeat wsX0_waterOfBeat := goodIn_r _ [50, 2, 1, 51, 4, 5, 6, 7, 8, 9, 52, 53, 54, 13, 55, 56, 57, 58, 59, 3, 10, 11, 12, 14, 15, 60, 61, 62, 63, 64, 65, 66, 67, 68, 69, 70, 71, 72, 73, 74, 75, 82, 76, 77, 78, 79, 80, 81] (by decide +kernel) (by decide +kernel)
set_option maxRecDepth 20000 in
theorem gX0_doBeat_X0_waterOfBeat : GoodIn wsX0_doBeat (wsV RX0 136 RX0 yX0_waterOfBeat wsX0_waterOfBeat) := goodIn_app (goodIn_of _ (by decide +kernel)) ggX0_doBeat_X0_waterOfBeat
theorem dX0_doBeat_0 : decode cX0_doBeat 0 = .ok (.aload_n 0, 1) := by decide +kernel
theorem dX0_doBeat_1 : decode cX0_doBeat 1 = .ok (.getfield 42, 3) := by decide +kernel
theorem dX0_doBeat_4 : decode cX0_doBeat 4 = .ok (.aload_n 0, 1) := by decide +kernel
theorem dX0_doBeat_5 : decode cX0_doBeat 5 = .ok (.getfield 9, 3) := by decide +kernel
theorem dX0_doBeat_8 : decode cX0_doBeat 8 = .ok (.iconst 1, 1) := by decide +kernel
theorem dX0_doBeat_9 : decode cX0_doBeat 9 = .ok (.isub, 1) := by decide +kernel
theorem dX0_doBeat_10 : decode cX0_doBeat 10 = .ok (.invokevirtual 68, 3) := by decide +kernel
theorem dX0_doBeat_13 : decode cX0_doBeat 13 = .ok (.istore_n 2, 1) := by decide +kernel
theorem dX0_doBeat_14 : decode cX0_doBeat 14 = .ok (.iload_n 2, 1) := by decide +kernel
theorem dX0_doBeat_15 : decode cX0_doBeat 15 = .ok (.iconst (-1), 1) := by decide +kernel
theorem dX0_doBeat_16 : decode cX0_doBeat 16 = .ok (.if_icmp .eq 53, 3) := by decide +kernel
theorem dX0_doBeat_19 : decode cX0_doBeat 19 = .ok (.aload_n 0, 1) := by decide +kernel
theorem dX0_doBeat_20 : decode cX0_doBeat 20 = .ok (.getfield 60, 3) := by decide +kernel
theorem dX0_doBeat_23 : decode cX0_doBeat 23 = .ok (.getfield 117, 3) := by decide +kernel
theorem dX0_doBeat_26 : decode cX0_doBeat 26 = .ok (.aload_n 0, 1) := by decide +kernel
theorem dX0_doBeat_27 : decode cX0_doBeat 27 = .ok (.iload_n 2, 1) := by decide +kernel
theorem dX0_doBeat_28 : decode cX0_doBeat 28 = .ok (.iconst 0, 1) := by decide +kernel
theorem dX0_doBeat_29 : decode cX0_doBeat 29 = .ok (.invokevirtual 122, 3) := by decide +kernel
theorem dX0_doBeat_32 : decode cX0_doBeat 32 = .ok (.invokevirtual 68, 3) := by decide +kernel
theorem dX0_doBeat_35 : decode cX0_doBeat 35 = .ok (.istore_n 3, 1) := by decide +kernel
theorem dX0_doBeat_36 : decode cX0_doBeat 36 = .ok (.aload_n 0, 1) := by decide +kernel
theorem dX0_doBeat_37 : decode cX0_doBeat 37 = .ok (.iload_n 1, 1) := by decide +kernel
theorem dX0_doBeat_38 : decode cX0_doBeat 38 = .ok (.invokevirtual 126, 3) := by decide +kernel
theorem dX0_doBeat_41 : decode cX0_doBeat 41 = .ok (.istore 4, 2) := by decide +kernel
theorem dX0_doBeat_43 : decode cX0_doBeat 43 = .ok (.iload_n 3, 1) := by decide +kernel
theorem dX0_doBeat_44 : decode cX0_doBeat 44 = .ok (.ifCond .le 16, 3) := by decide +kernel
theorem dX0_doBeat_47 : decode cX0_doBeat 47 = .ok (.iload 4, 2) := by decide +kernel
theorem dX0_doBeat_49 : decode cX0_doBeat 49 = .ok (.iconst (-1), 1) := by decide +kernel
theorem dX0_doBeat_50 : decode cX0_doBeat 50 = .ok (.if_icmp .ne 10, 3) := by decide +kernel
theorem dX0_doBeat_53 : decode cX0_doBeat 53 = .ok (.aload_n 0, 1) := by decide +kernel
theorem dX0_doBeat_54 : decode cX0_doBeat 54 = .ok (.iconst 2, 1) := by decide +kernel
theorem dX0_doBeat_55 : decode cX0_doBeat 55 = .ok (.iconst 1, 1) := by decide +kernel
theorem dX0_doBeat_56 : decode cX0_doBeat 56 = .ok (.invokevirtual 114, 3) := by decide +kernel
theorem dX0_doBeat_59 : decode cX0_doBeat 59 = .ok (.return_, 1) := by decide +kernel
theorem dX0_doBeat_60 : decode cX0_doBeat 60 = .ok (.aload_n 0, 1) := by decide +kernel
theorem dX0_doBeat_61 : decode cX0_doBeat 61 = .ok (.iload_n 2, 1) := by decide +kernel
theorem dX0_doBeat_62 : decode cX0_doBeat 62 = .ok (.iload_n 1, 1) := by decide +kernel
theorem dX0_doBeat_63 : decode cX0_doBeat 63 = .ok (.iload_n 3, 1) := by decide +kernel
theorem dX0_doBeat_64 : decode cX0_doBeat 64 = .ok (.iload 4, 2) := by decide +kernel
theorem dX0_doBeat_66 : decode cX0_doBeat 66 = .ok (.invokevirtual 129, 3) := by decide +kernel
theorem dX0_doBeat_69 : decode cX0_doBeat 69 = .ok (.aload_n 0, 1) := by decide +kernel
theorem dX0_doBeat_70 : decode cX0_doBeat 70 = .ok (.iload_n 1, 1) := by decide +kernel
theorem dX0_doBeat_71 : decode cX0_doBeat 71 = .ok (.invokevirtual 133, 3) := by decide +kernel
theorem dX0_doBeat_74 : decode cX0_doBeat 74 = .ok (.aload_n 0, 1) := by decide +kernel
theorem dX0_doBeat_75 : decode cX0_doBeat 75 = .ok (.iconst 3, 1) := by decide +kernel
theorem dX0_doBeat_76 : decode cX0_doBeat 76 = .ok (.aload_n 0, 1) := by decide +kernel
theorem dX0_doBeat_77 : decode cX0_doBeat 77 = .ok (.invokevirtual 136, 3) := by decide +kernel
theorem dX0_doBeat_80 : decode cX0_doBeat 80 = .ok (.invokevirtual 114, 3) := by decide +kernel
theorem dX0_doBeat_83 : decode cX0_doBeat 83 = .ok (.return_, 1) := by decide +kernel
set_option maxRecDepth 20000 in
theorem ggX0_freeDryer_X4_read : GoodIn wsX0_freeDryer wsX4_read := goodIn_r _ [7, 8, 25] (by decide +kernel) (by decide +kernel)
set_option maxRecDepth 20000 in
theorem gX0_freeDryer_X4_read : GoodIn wsX0_freeDryer (wsV RX0 68 RX4 yX4_read wsX4_read) := goodIn_app (goodIn_of _ (by decide +kernel)) ggX0_freeDryer_X4_read
theorem dX0_freeDryer_0 : decode cX0_freeDryer 0 = .ok (.iconst 0, 1) := by decide +kernel
theorem dX0_freeDryer_1 : decode cX0_freeDryer 1 = .ok (.istore_n 2, 1) := by decide +kernel
theorem dX0_freeDryer_2 : decode cX0_freeDryer 2 = .ok (.iload_n 2, 1) := by decide +kernel
theorem dX0_freeDryer_3 : decode cX0_freeDryer 3 = .ok (.aload_n 0, 1) := by decide +kernel
theorem dX0_freeDryer_4 : decode cX0_freeDryer 4 = .ok (.getfield 15, 3) := by decide +kernel
theorem dX0_freeDryer_7 : decode cX0_freeDryer 7 = .ok (.if_icmp .ge 23, 3) := by decide +kernel
theorem dX0_freeDryer_10 : decode cX0_freeDryer 10 = .ok (.aload_n 0, 1) := by decide +kernel
theorem dX0_freeDryer_11 : decode cX0_freeDryer 11 = .ok (.getfield 45, 3) := by decide +kernel
theorem dX0_freeDryer_14 : decode cX0_freeDryer 14 = .ok (.iload_n 2, 1) := by decide +kernel
theorem dX0_freeDryer_15 : decode cX0_freeDryer 15 = .ok (.invokevirtual 68, 3) := by decide +kernel
theorem dX0_freeDryer_18 : decode cX0_freeDryer 18 = .ok (.iload_n 1, 1) := by decide +kernel
theorem dX0_freeDryer_19 : decode cX0_freeDryer 19 = .ok (.if_icmp .gt 5, 3) := by decide +kernel
theorem dX0_freeDryer_22 : decode cX0_freeDryer 22 = .ok (.iload_n 2, 1) := by decide +kernel
theorem dX0_freeDryer_23 : decode cX0_freeDryer 23 = .ok (.ireturn, 1) := by decide +kernel
theorem dX0_freeDryer_24 : decode cX0_freeDryer 24 = .ok (.iinc 2 1, 3) := by decide +kernel
theorem dX0_freeDryer_27 : decode cX0_freeDryer 27 = .ok (.goto (-25), 3) := by decide +kernel
theorem dX0_freeDryer_30 : decode cX0_freeDryer 30 = .ok (.iconst (-1), 1) := by decide +kernel
theorem dX0_freeDryer_31 : decode cX0_freeDryer 31 = .ok (.ireturn, 1) := by decide +kernel
set_option maxRecDepth 20000 in
theorem ggX0_goOut_X0_note : GoodIn wsX0_goOut wsX0_note := goodIn_r _ [7, 8, 9, 10, 11, 12, 13, 14, 15, 16, 17, 18, 19, 20, 21, 22, 23, 24, 25, 26, 27, 28, 29, 30, 31] (by decide +kernel) (by decide +kernel)
set_option maxRecDepth 20000 in
theorem gX0_goOut_X0_note : GoodIn wsX0_goOut (wsV RX0 110 RX0 yX0_note wsX0_note) := goodIn_app (goodIn_of _ (by decide +kernel)) ggX0_goOut_X0_note
set_option maxRecDepth 20000 in
theorem ggX0_goOut_X4_write : GoodIn wsX0_goOut wsX4_write := goodIn_r _ [13, 14, 31] (by decide +kernel) (by decide +kernel)
set_option maxRecDepth 20000 in
theorem gX0_goOut_X4_write : GoodIn wsX0_goOut (wsV RX0 72 RX4 yX4_write wsX4_write) := goodIn_app (goodIn_of _ (by decide +kernel)) ggX0_goOut_X4_write
theorem dX0_goOut_0 : decode cX0_goOut 0 = .ok (.aload_n 0, 1) := by decide +kernel
theorem dX0_goOut_1 : decode cX0_goOut 1 = .ok (.dup, 1) := by decide +kernel
theorem dX0_goOut_2 : decode cX0_goOut 2 = .ok (.getfield 30, 3) := by decide +kernel
theorem dX0_goOut_5 : decode cX0_goOut 5 = .ok (.iconst 1, 1) := by decide +kernel
theorem dX0_goOut_6 : decode cX0_goOut 6 = .ok (.iadd, 1) := by decide +kernel
theorem dX0_goOut_7 : decode cX0_goOut 7 = .ok (.putfield 30, 3) := by decide +kernel
theorem dX0_goOut_10 : decode cX0_goOut 10 = .ok (.aload_n 0, 1) := by decide +kernel
theorem dX0_goOut_11 : decode cX0_goOut 11 = .ok (.iload_n 1, 1) := by decide +kernel
theorem dX0_goOut_12 : decode cX0_goOut 12 = .ok (.iconst 2, 1) := by decide +kernel
theorem dX0_goOut_13 : decode cX0_goOut 13 = .ok (.iload_n 2, 1) := by decide +kernel
theorem dX0_goOut_14 : decode cX0_goOut 14 = .ok (.invokevirtual 110, 3) := by decide +kernel
theorem dX0_goOut_17 : decode cX0_goOut 17 = .ok (.aload_n 0, 1) := by decide +kernel
theorem dX0_goOut_18 : decode cX0_goOut 18 = .ok (.iload_n 1, 1) := by decide +kernel
theorem dX0_goOut_19 : decode cX0_goOut 19 = .ok (.iconst 4, 1) := by decide +kernel
theorem dX0_goOut_20 : decode cX0_goOut 20 = .ok (.iload_n 2, 1) := by decide +kernel
theorem dX0_goOut_21 : decode cX0_goOut 21 = .ok (.iload_n 3, 1) := by decide +kernel
theorem dX0_goOut_22 : decode cX0_goOut 22 = .ok (.iadd, 1) := by decide +kernel
theorem dX0_goOut_23 : decode cX0_goOut 23 = .ok (.invokevirtual 110, 3) := by decide +kernel
theorem dX0_goOut_26 : decode cX0_goOut 26 = .ok (.iload_n 3, 1) := by decide +kernel
theorem dX0_goOut_27 : decode cX0_goOut 27 = .ok (.ifCond .le 23, 3) := by decide +kernel
theorem dX0_goOut_30 : decode cX0_goOut 30 = .ok (.aload_n 0, 1) := by decide +kernel
theorem dX0_goOut_31 : decode cX0_goOut 31 = .ok (.iload_n 1, 1) := by decide +kernel
theorem dX0_goOut_32 : decode cX0_goOut 32 = .ok (.iconst 3, 1) := by decide +kernel
theorem dX0_goOut_33 : decode cX0_goOut 33 = .ok (.iload 4, 2) := by decide +kernel
theorem dX0_goOut_35 : decode cX0_goOut 35 = .ok (.invokevirtual 110, 3) := by decide +kernel
theorem dX0_goOut_38 : decode cX0_goOut 38 = .ok (.aload_n 0, 1) := by decide +kernel
theorem dX0_goOut_39 : decode cX0_goOut 39 = .ok (.getfield 45, 3) := by decide +kernel
theorem dX0_goOut_42 : decode cX0_goOut 42 = .ok (.iload 4, 2) := by decide +kernel
theorem dX0_goOut_44 : decode cX0_goOut 44 = .ok (.iload_n 2, 1) := by decide +kernel
theorem dX0_goOut_45 : decode cX0_goOut 45 = .ok (.iload_n 3, 1) := by decide +kernel
theorem dX0_goOut_46 : decode cX0_goOut 46 = .ok (.iadd, 1) := by decide +kernel
theorem dX0_goOut_47 : decode cX0_goOut 47 = .ok (.invokevirtual 72, 3) := by decide +kernel
theorem dX0_goOut_50 : decode cX0_goOut 50 = .ok (.return_, 1) := by decide +kernel
set_option maxRecDepth 20000 in
theorem ggX0_moveOn_X4_read : GoodIn wsX0_moveOn wsX4_read := goodIn_r _ [10, 11, 38] (by decide +kernel) (by decide +kernel)
set_option maxRecDepth 20000 in
theorem gX0_moveOn_X4_read : GoodIn wsX0_moveOn (wsV RX0 68 RX4 yX4_read wsX4_read) := goodIn_app (goodIn_of _ (by decide +kernel)) ggX0_moveOn_X4_read
set_option maxRecDepth 20000 in
theorem ggX0_moveOn_X4_write : GoodIn wsX0_moveOn wsX4_write := goodIn_r _ [15, 11, 38] (by decide +kernel) (by decide +kernel)
set_option maxRecDepth 20000 in
theorem gX0_moveOn_X4_write : GoodIn wsX0_moveOn (wsV RX0 72 RX4 yX4_write wsX4_write) := goodIn_app (goodIn_of _ (by decide +kernel)) ggX0_moveOn_X4_write
set_option maxRecDepth 20000 in
theorem ggX0_moveOn_X0_note : GoodIn wsX0_moveOn wsX0_note := goodIn_r _ [20, 21, 12, 13, 14, 9, 15, 11, 22, 23, 24, 25, 26, 27, 28, 29, 30, 31, 32, 33, 34, 35, 36, 37, 38] (by decide +kernel) (by decide +kernel)
set_option maxRecDepth 20000 in
theorem gX0_moveOn_X0_note : GoodIn wsX0_moveOn (wsV RX0 110 RX0 yX0_note wsX0_note) := goodIn_app (goodIn_of _ (by decide +kernel)) ggX0_moveOn_X0_note
theorem dX0_moveOn_0 : decode cX0_moveOn 0 = .ok (.aload_n 0, 1) := by decide +kernel
theorem dX0_moveOn_1 : decode cX0_moveOn 1 = .ok (.getfield 9, 3) := by decide +kernel
theorem dX0_moveOn_4 : decode cX0_moveOn 4 = .ok (.iconst 1, 1) := by decide +kernel
theorem dX0_moveOn_5 : decode cX0_moveOn 5 = .ok (.isub, 1) := by decide +kernel
theorem dX0_moveOn_6 : decode cX0_moveOn 6 = .ok (.istore_n 2, 1) := by decide +kernel
theorem dX0_moveOn_7 : decode cX0_moveOn 7 = .ok (.iload_n 2, 1) := by decide +kernel
theorem dX0_moveOn_8 : decode cX0_moveOn 8 = .ok (.ifCond .le 27, 3) := by decide +kernel
theorem dX0_moveOn_11 : decode cX0_moveOn 11 = .ok (.aload_n 0, 1) := by decide +kernel
theorem dX0_moveOn_12 : decode cX0_moveOn 12 = .ok (.getfield 42, 3) := by decide +kernel
theorem dX0_moveOn_15 : decode cX0_moveOn 15 = .ok (.iload_n 2, 1) := by decide +kernel
theorem dX0_moveOn_16 : decode cX0_moveOn 16 = .ok (.aload_n 0, 1) := by decide +kernel
theorem dX0_moveOn_17 : decode cX0_moveOn 17 = .ok (.getfield 42, 3) := by decide +kernel
theorem dX0_moveOn_20 : decode cX0_moveOn 20 = .ok (.iload_n 2, 1) := by decide +kernel
theorem dX0_moveOn_21 : decode cX0_moveOn 21 = .ok (.iconst 1, 1) := by decide +kernel
theorem dX0_moveOn_22 : decode cX0_moveOn 22 = .ok (.isub, 1) := by decide +kernel
theorem dX0_moveOn_23 : decode cX0_moveOn 23 = .ok (.invokevirtual 68, 3) := by decide +kernel
theorem dX0_moveOn_26 : decode cX0_moveOn 26 = .ok (.invokevirtual 72, 3) := by decide +kernel
theorem dX0_moveOn_29 : decode cX0_moveOn 29 = .ok (.iinc 2 (-1), 3) := by decide +kernel
theorem dX0_moveOn_32 : decode cX0_moveOn 32 = .ok (.goto (-25), 3) := by decide +kernel
theorem dX0_moveOn_35 : decode cX0_moveOn 35 = .ok (.aload_n 0, 1) := by decide +kernel
theorem dX0_moveOn_36 : decode cX0_moveOn 36 = .ok (.getfield 27, 3) := by decide +kernel
theorem dX0_moveOn_39 : decode cX0_moveOn 39 = .ok (.aload_n 0, 1) := by decide +kernel
theorem dX0_moveOn_40 : decode cX0_moveOn 40 = .ok (.getfield 24, 3) := by decide +kernel
theorem dX0_moveOn_43 : decode cX0_moveOn 43 = .ok (.if_icmp .ge 17, 3) := by decide +kernel
theorem dX0_moveOn_46 : decode cX0_moveOn 46 = .ok (.aload_n 0, 1) := by decide +kernel
theorem dX0_moveOn_47 : decode cX0_moveOn 47 = .ok (.getfield 38, 3) := by decide +kernel
theorem dX0_moveOn_50 : decode cX0_moveOn 50 = .ok (.aload_n 0, 1) := by decide +kernel
theorem dX0_moveOn_51 : decode cX0_moveOn 51 = .ok (.getfield 27, 3) := by decide +kernel
theorem dX0_moveOn_54 : decode cX0_moveOn 54 = .ok (.invokevirtual 68, 3) := by decide +kernel
theorem dX0_moveOn_57 : decode cX0_moveOn 57 = .ok (.goto 4, 3) := by decide +kernel
theorem dX0_moveOn_60 : decode cX0_moveOn 60 = .ok (.iconst (-1), 1) := by decide +kernel
theorem dX0_moveOn_61 : decode cX0_moveOn 61 = .ok (.istore_n 2, 1) := by decide +kernel
theorem dX0_moveOn_62 : decode cX0_moveOn 62 = .ok (.aload_n 0, 1) := by decide +kernel
theorem dX0_moveOn_63 : decode cX0_moveOn 63 = .ok (.dup, 1) := by decide +kernel
theorem dX0_moveOn_64 : decode cX0_moveOn 64 = .ok (.getfield 27, 3) := by decide +kernel
theorem dX0_moveOn_67 : decode cX0_moveOn 67 = .ok (.iconst 1, 1) := by decide +kernel
theorem dX0_moveOn_68 : decode cX0_moveOn 68 = .ok (.iadd, 1) := by decide +kernel
theorem dX0_moveOn_69 : decode cX0_moveOn 69 = .ok (.putfield 27, 3) := by decide +kernel
theorem dX0_moveOn_72 : decode cX0_moveOn 72 = .ok (.aload_n 0, 1) := by decide +kernel
theorem dX0_moveOn_73 : decode cX0_moveOn 73 = .ok (.getfield 42, 3) := by decide +kernel
theorem dX0_moveOn_76 : decode cX0_moveOn 76 = .ok (.iconst 0, 1) := by decide +kernel
theorem dX0_moveOn_77 : decode cX0_moveOn 77 = .ok (.iload_n 2, 1) := by decide +kernel
theorem dX0_moveOn_78 : decode cX0_moveOn 78 = .ok (.invokevirtual 72, 3) := by decide +kernel
theorem dX0_moveOn_81 : decode cX0_moveOn 81 = .ok (.iload_n 2, 1) := by decide +kernel
theorem dX0_moveOn_82 : decode cX0_moveOn 82 = .ok (.iconst (-1), 1) := by decide +kernel
theorem dX0_moveOn_83 : decode cX0_moveOn 83 = .ok (.if_icmp .eq 10, 3) := by decide +kernel
theorem dX0_moveOn_86 : decode cX0_moveOn 86 = .ok (.aload_n 0, 1) := by decide +kernel
theorem dX0_moveOn_87 : decode cX0_moveOn 87 = .ok (.iload_n 2, 1) := by decide +kernel
theorem dX0_moveOn_88 : decode cX0_moveOn 88 = .ok (.iconst 1, 1) := by decide +kernel
theorem dX0_moveOn_89 : decode cX0_moveOn 89 = .ok (.iload_n 1, 1) := by decide +kernel
theorem dX0_moveOn_90 : decode cX0_moveOn 90 = .ok (.invokevirtual 110, 3) := by decide +kernel
theorem dX0_moveOn_93 : decode cX0_moveOn 93 = .ok (.return_, 1) := by decide +kernel
set_option maxRecDepth 20000 in
theorem ggX0_waterOfBeat_X4_read : GoodIn wsX0_waterOfBeat wsX4_read := goodIn_r _ [8, 9, 41] (by decide +kernel) (by decide +kernel)
set_option maxRecDepth 20000 in
theorem gX0_waterOfBeat_X4_read : GoodIn wsX0_waterOfBeat (wsV RX0 68 RX4 yX4_read wsX4_read) := goodIn_app (goodIn_of _ (by decide +kernel)) ggX0_waterOfBeat_X4_read
set_option maxRecDepth 20000 in
theorem ggX0_waterOfBeat_X0_hasWaterOfNext : GoodIn wsX0_waterOfBeat wsX0_hasWaterOfNext := goodIn_r _ [14, 1, 2, 4, 5, 6, 7, 8, 9, 15, 16, 17, 13, 18, 19, 20, 21, 22, 23, 24, 25, 26, 27, 28, 29, 30, 31, 32, 33, 34, 35, 36, 37, 38, 39, 40, 41, 42, 43, 44, 45, 46, 47] (by decide +kernel) (by decide +kernel)
set_option maxRecDepth 20000 in
theorem gX0_waterOfBeat_X0_hasWaterOfNext : GoodIn wsX0_waterOfBeat (wsV RX0 140 RX0 yX0_hasWaterOfNext wsX0_hasWaterOfNext) := goodIn_app (goodIn_of _ (by decide +kernel)) ggX0_waterOfBeat_X0_hasWaterOfNext
theorem dX0_waterOfBeat_0 : decode cX0_waterOfBeat 0 = .ok (.iconst 0, 1) := by decide +kernel
theorem dX0_waterOfBeat_1 : decode cX0_waterOfBeat 1 = .ok (.istore_n 1, 1) := by decide +kernel
theorem dX0_waterOfBeat_2 : decode cX0_waterOfBeat 2 = .ok (.iconst 0, 1) := by decide +kernel
theorem dX0_waterOfBeat_3 : decode cX0_waterOfBeat 3 = .ok (.istore_n 2, 1) := by decide +kernel
theorem dX0_waterOfBeat_4 : decode cX0_waterOfBeat 4 = .ok (.iload_n 2, 1) := by decide +kernel
theorem dX0_waterOfBeat_5 : decode cX0_waterOfBeat 5 = .ok (.aload_n 0, 1) := by decide +kernel
theorem dX0_waterOfBeat_6 : decode cX0_waterOfBeat 6 = .ok (.getfield 9, 3) := by decide +kernel
theorem dX0_waterOfBeat_9 : decode cX0_waterOfBeat 9 = .ok (.if_icmp .ge 45, 3) := by decide +kernel
theorem dX0_waterOfBeat_12 : decode cX0_waterOfBeat 12 = .ok (.aload_n 0, 1) := by decide +kernel
theorem dX0_waterOfBeat_13 : decode cX0_waterOfBeat 13 = .ok (.getfield 42, 3) := by decide +kernel
theorem dX0_waterOfBeat_16 : decode cX0_waterOfBeat 16 = .ok (.iload_n 2, 1) := by decide +kernel
theorem dX0_waterOfBeat_17 : decode cX0_waterOfBeat 17 = .ok (.invokevirtual 68, 3) := by decide +kernel
theorem dX0_waterOfBeat_20 : decode cX0_waterOfBeat 20 = .ok (.istore_n 3, 1) := by decide +kernel
theorem dX0_waterOfBeat_21 : decode cX0_waterOfBeat 21 = .ok (.iload_n 3, 1) := by decide +kernel
theorem dX0_waterOfBeat_22 : decode cX0_waterOfBeat 22 = .ok (.iconst (-1), 1) := by decide +kernel
theorem dX0_waterOfBeat_23 : decode cX0_waterOfBeat 23 = .ok (.if_icmp .eq 25, 3) := by decide +kernel
theorem dX0_waterOfBeat_26 : decode cX0_waterOfBeat 26 = .ok (.aload_n 0, 1) := by decide +kernel
theorem dX0_waterOfBeat_27 : decode cX0_waterOfBeat 27 = .ok (.iload_n 2, 1) := by decide +kernel
theorem dX0_waterOfBeat_28 : decode cX0_waterOfBeat 28 = .ok (.invokevirtual 140, 3) := by decide +kernel
theorem dX0_waterOfBeat_31 : decode cX0_waterOfBeat 31 = .ok (.ifCond .ne 17, 3) := by decide +kernel
theorem dX0_waterOfBeat_34 : decode cX0_waterOfBeat 34 = .ok (.iload_n 1, 1) := by decide +kernel
theorem dX0_waterOfBeat_35 : decode cX0_waterOfBeat 35 = .ok (.bipush 10, 2) := by decide +kernel
theorem dX0_waterOfBeat_37 : decode cX0_waterOfBeat 37 = .ok (.aload_n 0, 1) := by decide +kernel
theorem dX0_waterOfBeat_38 : decode cX0_waterOfBeat 38 = .ok (.getfield 51, 3) := by decide +kernel
theorem dX0_waterOfBeat_41 : decode cX0_waterOfBeat 41 = .ok (.iload_n 3, 1) := by decide +kernel
theorem dX0_waterOfBeat_42 : decode cX0_waterOfBeat 42 = .ok (.invokevirtual 68, 3) := by decide +kernel
theorem dX0_waterOfBeat_45 : decode cX0_waterOfBeat 45 = .ok (.imul, 1) := by decide +kernel
theorem dX0_waterOfBeat_46 : decode cX0_waterOfBeat 46 = .ok (.iadd, 1) := by decide +kernel
theorem dX0_waterOfBeat_47 : decode cX0_waterOfBeat 47 = .ok (.istore_n 1, 1) := by decide +kernel
theorem dX0_waterOfBeat_48 : decode cX0_waterOfBeat 48 = .ok (.iinc 2 1, 3) := by decide +kernel
theorem dX0_waterOfBeat_51 : decode cX0_waterOfBeat 51 = .ok (.goto (-47), 3) := by decide +kernel
theorem dX0_waterOfBeat_54 : decode cX0_waterOfBeat 54 = .ok (.iload_n 1, 1) := by decide +kernel
theorem dX0_waterOfBeat_55 : decode cX0_waterOfBeat 55 = .ok (.ireturn, 1) := by decide +kernel
set_option maxRecDepth 20000 in
theorem ggX0_hasWaterOfNext_X4_read : GoodIn wsX0_hasWaterOfNext wsX4_read := goodIn_r _ [7, 8, 36] (by decide +kernel) (by decide +kernel)
set_option maxRecDepth 20000 in
theorem gX0_hasWaterOfNext_X4_read : GoodIn wsX0_hasWaterOfNext (wsV RX0 68 RX4 yX4_read wsX4_read) := goodIn_app (goodIn_of _ (by decide +kernel)) ggX0_hasWaterOfNext_X4_read
set_option maxRecDepth 20000 in
theorem ggX0_hasWaterOfNext_X0_colourAt : GoodIn wsX0_hasWaterOfNext wsX0_colourAt := goodIn_r _ [13, 14, 15, 16, 17, 12, 18, 19, 3, 4, 5, 6, 7, 8, 20, 21, 22, 23, 24, 25, 26, 27, 28, 29, 30, 31, 32, 33, 34, 35, 37, 38, 39, 40, 41, 42, 36] (by decide +kernel) (by decide +kernel)
set_option maxRecDepth 20000 in
theorem gX0_hasWaterOfNext_X0_colourAt : GoodIn wsX0_hasWaterOfNext (wsV RX0 144 RX0 yX0_colourAt wsX0_colourAt) := goodIn_app (goodIn_of _ (by decide +kernel)) ggX0_hasWaterOfNext_X0_colourAt
theorem dX0_hasWaterOfNext_0 : decode cX0_hasWaterOfNext 0 = .ok (.iload_n 1, 1) := by decide +kernel
theorem dX0_hasWaterOfNext_1 : decode cX0_hasWaterOfNext 1 = .ok (.aload_n 0, 1) := by decide +kernel
theorem dX0_hasWaterOfNext_2 : decode cX0_hasWaterOfNext 2 = .ok (.getfield 9, 3) := by decide +kernel
theorem dX0_hasWaterOfNext_5 : decode cX0_hasWaterOfNext 5 = .ok (.iconst 1, 1) := by decide +kernel
theorem dX0_hasWaterOfNext_6 : decode cX0_hasWaterOfNext 6 = .ok (.isub, 1) := by decide +kernel
theorem dX0_hasWaterOfNext_7 : decode cX0_hasWaterOfNext 7 = .ok (.if_icmp .ge 16, 3) := by decide +kernel
theorem dX0_hasWaterOfNext_10 : decode cX0_hasWaterOfNext 10 = .ok (.aload_n 0, 1) := by decide +kernel
theorem dX0_hasWaterOfNext_11 : decode cX0_hasWaterOfNext 11 = .ok (.getfield 42, 3) := by decide +kernel
theorem dX0_hasWaterOfNext_14 : decode cX0_hasWaterOfNext 14 = .ok (.iload_n 1, 1) := by decide +kernel
theorem dX0_hasWaterOfNext_15 : decode cX0_hasWaterOfNext 15 = .ok (.iconst 1, 1) := by decide +kernel
theorem dX0_hasWaterOfNext_16 : decode cX0_hasWaterOfNext 16 = .ok (.iadd, 1) := by decide +kernel
theorem dX0_hasWaterOfNext_17 : decode cX0_hasWaterOfNext 17 = .ok (.invokevirtual 68, 3) := by decide +kernel
theorem dX0_hasWaterOfNext_20 : decode cX0_hasWaterOfNext 20 = .ok (.goto 4, 3) := by decide +kernel
theorem dX0_hasWaterOfNext_23 : decode cX0_hasWaterOfNext 23 = .ok (.iconst (-1), 1) := by decide +kernel
theorem dX0_hasWaterOfNext_24 : decode cX0_hasWaterOfNext 24 = .ok (.istore_n 2, 1) := by decide +kernel
theorem dX0_hasWaterOfNext_25 : decode cX0_hasWaterOfNext 25 = .ok (.iload_n 2, 1) := by decide +kernel
theorem dX0_hasWaterOfNext_26 : decode cX0_hasWaterOfNext 26 = .ok (.iconst (-1), 1) := by decide +kernel
theorem dX0_hasWaterOfNext_27 : decode cX0_hasWaterOfNext 27 = .ok (.if_icmp .eq 27, 3) := by decide +kernel
theorem dX0_hasWaterOfNext_30 : decode cX0_hasWaterOfNext 30 = .ok (.aload_n 0, 1) := by decide +kernel
theorem dX0_hasWaterOfNext_31 : decode cX0_hasWaterOfNext 31 = .ok (.iload_n 2, 1) := by decide +kernel
theorem dX0_hasWaterOfNext_32 : decode cX0_hasWaterOfNext 32 = .ok (.invokevirtual 144, 3) := by decide +kernel
theorem dX0_hasWaterOfNext_35 : decode cX0_hasWaterOfNext 35 = .ok (.aload_n 0, 1) := by decide +kernel
theorem dX0_hasWaterOfNext_36 : decode cX0_hasWaterOfNext 36 = .ok (.aload_n 0, 1) := by decide +kernel
theorem dX0_hasWaterOfNext_37 : decode cX0_hasWaterOfNext 37 = .ok (.getfield 42, 3) := by decide +kernel
theorem dX0_hasWaterOfNext_40 : decode cX0_hasWaterOfNext 40 = .ok (.iload_n 1, 1) := by decide +kernel
theorem dX0_hasWaterOfNext_41 : decode cX0_hasWaterOfNext 41 = .ok (.invokevirtual 68, 3) := by decide +kernel
theorem dX0_hasWaterOfNext_44 : decode cX0_hasWaterOfNext 44 = .ok (.invokevirtual 144, 3) := by decide +kernel
theorem dX0_hasWaterOfNext_47 : decode cX0_hasWaterOfNext 47 = .ok (.if_icmp .gt 7, 3) := by decide +kernel
theorem dX0_hasWaterOfNext_50 : decode cX0_hasWaterOfNext 50 = .ok (.iconst 1, 1) := by decide +kernel
theorem dX0_hasWaterOfNext_51 : decode cX0_hasWaterOfNext 51 = .ok (.goto 4, 3) := by decide +kernel
theorem dX0_hasWaterOfNext_54 : decode cX0_hasWaterOfNext 54 = .ok (.iconst 0, 1) := by decide +kernel
theorem dX0_hasWaterOfNext_55 : decode cX0_hasWaterOfNext 55 = .ok (.ireturn, 1) := by decide +kernel
set_option maxRecDepth 20000 in
theorem ggX0_colourAt_X0_fact : GoodIn wsX0_colourAt wsX0_fact := goodIn_r _ [6, 7, 8, 9, 10, 11, 12, 13, 14, 15, 16, 17, 18, 19, 20, 21, 22, 23, 24, 25, 26, 27, 28, 29, 36] (by decide +kernel) (by decide +kernel)
set_option maxRecDepth 20000 in
theorem gX0_colourAt_X0_fact : GoodIn wsX0_colourAt (wsV RX0 122 RX0 yX0_fact wsX0_fact) := goodIn_app (goodIn_of _ (by decide +kernel)) ggX0_colourAt_X0_fact
set_option maxRecDepth 20000 in
theorem ggX0_colourAt_X4_read : GoodIn wsX0_colourAt wsX4_read := goodIn_r _ [12, 13, 36] (by decide +kernel) (by decide +kernel)
set_option maxRecDepth 20000 in
theorem gX0_colourAt_X4_read : GoodIn wsX0_colourAt (wsV RX0 68 RX4 yX4_read wsX4_read) := goodIn_app (goodIn_of _ (by decide +kernel)) ggX0_colourAt_X4_read
theorem dX0_colourAt_0 : decode cX0_colourAt 0 = .ok (.aload_n 0, 1) := by decide +kernel
theorem dX0_colourAt_1 : decode cX0_colourAt 1 = .ok (.getfield 60, 3) := by decide +kernel
theorem dX0_colourAt_4 : decode cX0_colourAt 4 = .ok (.getfield 147, 3) := by decide +kernel
theorem dX0_colourAt_7 : decode cX0_colourAt 7 = .ok (.aload_n 0, 1) := by decide +kernel
theorem dX0_colourAt_8 : decode cX0_colourAt 8 = .ok (.iload_n 1, 1) := by decide +kernel
theorem dX0_colourAt_9 : decode cX0_colourAt 9 = .ok (.iconst 0, 1) := by decide +kernel
theorem dX0_colourAt_10 : decode cX0_colourAt 10 = .ok (.invokevirtual 122, 3) := by decide +kernel
theorem dX0_colourAt_13 : decode cX0_colourAt 13 = .ok (.invokevirtual 68, 3) := by decide +kernel
theorem dX0_colourAt_16 : decode cX0_colourAt 16 = .ok (.ireturn, 1) := by decide +kernel
set_option maxRecDepth 20000 in
theorem ggX0_ironAll_X4_read : GoodIn wsX0_ironAll wsX4_read := goodIn_r _ [10, 11, 57] (by decide +kernel) (by decide +kernel)
set_option maxRecDepth 20000 in
theorem gX0_ironAll_X4_read : GoodIn wsX0_ironAll (wsV RX0 68 RX4 yX4_read wsX4_read) := goodIn_app (goodIn_of _ (by decide +kernel)) ggX0_ironAll_X4_read
set_option maxRecDepth 20000 in
theorem ggX0_ironAll_X0_firstDry : GoodIn wsX0_ironAll wsX0_firstDry := goodIn_r _ [16, 1, 6, 7, 8, 9, 10, 11, 17, 18, 19, 15, 20, 21, 41, 42, 43, 44, 45, 46, 47, 48, 49, 50, 51, 52, 53, 54, 55, 56, 57] (by decide +kernel) (by decide +kernel)
set_option maxRecDepth 20000 in
theorem gX0_ironAll_X0_firstDry : GoodIn wsX0_ironAll (wsV RX0 150 RX0 yX0_firstDry wsX0_firstDry) := goodIn_app (goodIn_of _ (by decide +kernel)) ggX0_ironAll_X0_firstDry
set_option maxRecDepth 20000 in
theorem ggX0_ironAll_X0_ironOne : GoodIn wsX0_ironAll wsX0_ironOne := goodIn_r _ [25, 26, 27, 2, 3, 4, 5, 17, 18, 19, 15, 20, 21, 6, 7, 8, 9, 10, 11, 28, 29, 30, 31, 32, 33, 34, 35, 36, 37, 38, 39, 40, 41, 42, 43, 44, 45, 46, 47, 48, 49, 50, 51, 52, 53, 54, 55, 56, 58, 59, 60, 61, 62, 63, 57] (by decide +kernel) (by decide +kernel)
set_option maxRecDepth 20000 in
theorem gX0_ironAll_X0_ironOne : GoodIn wsX0_ironAll (wsV RX0 153 RX0 yX0_ironOne wsX0_ironOne) := goodIn_app (goodIn_of _ (by decide +kernel)) ggX0_ironAll_X0_ironOne
set_option maxRecDepth 20000 in
theorem ggX0_ironAll_X0_fact : GoodIn wsX0_ironAll wsX0_fact := goodIn_r _ [20, 21, 6, 7, 8, 9, 10, 11, 41, 42, 43, 44, 45, 46, 47, 48, 49, 50, 51, 52, 53, 54, 55, 56, 57] (by decide +kernel) (by decide +kernel)
set_option maxRecDepth 20000 in
theorem gX0_ironAll_X0_fact : GoodIn wsX0_ironAll (wsV RX0 122 RX0 yX0_fact wsX0_fact) := goodIn_app (goodIn_of _ (by decide +kernel)) ggX0_ironAll_X0_fact
set_option maxRecDepth 20000 in
theorem ggX0_ironAll_X4_write : GoodIn wsX0_ironAll wsX4_write := goodIn_r _ [35, 11, 57] (by decide +kernel) (by decide +kernel)
set_option maxRecDepth 20000 in
theorem gX0_ironAll_X4_write : GoodIn wsX0_ironAll (wsV RX0 72 RX4 yX4_write wsX4_write) := goodIn_app (goodIn_of _ (by decide +kernel)) ggX0_ironAll_X4_write
theorem dX0_ironAll_0 : decode cX0_ironAll 0 = .ok (.aload_n 0, 1) := by decide +kernel
theorem dX0_ironAll_1 : decode cX0_ironAll 1 = .ok (.getfield 57, 3) := by decide +kernel
theorem dX0_ironAll_4 : decode cX0_ironAll 4 = .ok (.iconst 5, 1) := by decide +kernel
theorem dX0_ironAll_5 : decode cX0_ironAll 5 = .ok (.invokevirtual 68, 3) := by decide +kernel
theorem dX0_ironAll_8 : decode cX0_ironAll 8 = .ok (.istore_n 1, 1) := by decide +kernel
theorem dX0_ironAll_9 : decode cX0_ironAll 9 = .ok (.iconst 0, 1) := by decide +kernel
theorem dX0_ironAll_10 : decode cX0_ironAll 10 = .ok (.istore_n 2, 1) := by decide +kernel
theorem dX0_ironAll_11 : decode cX0_ironAll 11 = .ok (.iconst 0, 1) := by decide +kernel
theorem dX0_ironAll_12 : decode cX0_ironAll 12 = .ok (.istore_n 3, 1) := by decide +kernel
theorem dX0_ironAll_13 : decode cX0_ironAll 13 = .ok (.iload_n 3, 1) := by decide +kernel
theorem dX0_ironAll_14 : decode cX0_ironAll 14 = .ok (.iload_n 1, 1) := by decide +kernel
theorem dX0_ironAll_15 : decode cX0_ironAll 15 = .ok (.if_icmp .ge 56, 3) := by decide +kernel
theorem dX0_ironAll_18 : decode cX0_ironAll 18 = .ok (.aload_n 0, 1) := by decide +kernel
theorem dX0_ironAll_19 : decode cX0_ironAll 19 = .ok (.iload_n 2, 1) := by decide +kernel
theorem dX0_ironAll_20 : decode cX0_ironAll 20 = .ok (.invokevirtual 150, 3) := by decide +kernel
theorem dX0_ironAll_23 : decode cX0_ironAll 23 = .ok (.istore 4, 2) := by decide +kernel
theorem dX0_ironAll_25 : decode cX0_ironAll 25 = .ok (.iload_n 2, 1) := by decide +kernel
theorem dX0_ironAll_26 : decode cX0_ironAll 26 = .ok (.iconst 1, 1) := by decide +kernel
theorem dX0_ironAll_27 : decode cX0_ironAll 27 = .ok (.iload 4, 2) := by decide +kernel
theorem dX0_ironAll_29 : decode cX0_ironAll 29 = .ok (.ishl, 1) := by decide +kernel
theorem dX0_ironAll_30 : decode cX0_ironAll 30 = .ok (.ior, 1) := by decide +kernel
theorem dX0_ironAll_31 : decode cX0_ironAll 31 = .ok (.istore_n 2, 1) := by decide +kernel
theorem dX0_ironAll_32 : decode cX0_ironAll 32 = .ok (.aload_n 0, 1) := by decide +kernel
theorem dX0_ironAll_33 : decode cX0_ironAll 33 = .ok (.iload 4, 2) := by decide +kernel
theorem dX0_ironAll_35 : decode cX0_ironAll 35 = .ok (.invokevirtual 153, 3) := by decide +kernel
theorem dX0_ironAll_38 : decode cX0_ironAll 38 = .ok (.aload_n 0, 1) := by decide +kernel
theorem dX0_ironAll_39 : decode cX0_ironAll 39 = .ok (.getfield 57, 3) := by decide +kernel
theorem dX0_ironAll_42 : decode cX0_ironAll 42 = .ok (.iconst 4, 1) := by decide +kernel
theorem dX0_ironAll_43 : decode cX0_ironAll 43 = .ok (.aload_n 0, 1) := by decide +kernel
theorem dX0_ironAll_44 : decode cX0_ironAll 44 = .ok (.getfield 57, 3) := by decide +kernel
theorem dX0_ironAll_47 : decode cX0_ironAll 47 = .ok (.iconst 4, 1) := by decide +kernel
theorem dX0_ironAll_48 : decode cX0_ironAll 48 = .ok (.invokevirtual 68, 3) := by decide +kernel
theorem dX0_ironAll_51 : decode cX0_ironAll 51 = .ok (.aload_n 0, 1) := by decide +kernel
theorem dX0_ironAll_52 : decode cX0_ironAll 52 = .ok (.iload 4, 2) := by decide +kernel
theorem dX0_ironAll_54 : decode cX0_ironAll 54 = .ok (.bipush 6, 2) := by decide +kernel
theorem dX0_ironAll_56 : decode cX0_ironAll 56 = .ok (.invokevirtual 122, 3) := by decide +kernel
theorem dX0_ironAll_59 : decode cX0_ironAll 59 = .ok (.invokestatic 156, 3) := by decide +kernel
theorem dX0_ironAll_62 : decode cX0_ironAll 62 = .ok (.invokevirtual 72, 3) := by decide +kernel
theorem dX0_ironAll_65 : decode cX0_ironAll 65 = .ok (.iinc 3 1, 3) := by decide +kernel
theorem dX0_ironAll_68 : decode cX0_ironAll 68 = .ok (.goto (-55), 3) := by decide +kernel
theorem dX0_ironAll_71 : decode cX0_ironAll 71 = .ok (.return_, 1) := by decide +kernel
set_option maxRecDepth 20000 in
theorem ggX0_firstDry_X4_read : GoodIn wsX0_firstDry wsX4_read := goodIn_r _ [6, 7, 30] (by decide +kernel) (by decide +kernel)
set_option maxRecDepth 20000 in
theorem gX0_firstDry_X4_read : GoodIn wsX0_firstDry (wsV RX0 68 RX4 yX4_read wsX4_read) := goodIn_app (goodIn_of _ (by decide +kernel)) ggX0_firstDry_X4_read
set_option maxRecDepth 20000 in
theorem ggX0_firstDry_X0_fact : GoodIn wsX0_firstDry wsX0_fact := goodIn_r _ [12, 13, 2, 3, 4, 5, 6, 7, 14, 15, 16, 17, 18, 19, 20, 21, 22, 23, 24, 25, 26, 27, 28, 29, 30] (by decide +kernel) (by decide +kernel)
set_option maxRecDepth 20000 in
theorem gX0_firstDry_X0_fact : GoodIn wsX0_firstDry (wsV RX0 122 RX0 yX0_fact wsX0_fact) := goodIn_app (goodIn_of _ (by decide +kernel)) ggX0_firstDry_X0_fact
theorem dX0_firstDry_0 : decode cX0_firstDry 0 = .ok (.iconst (-1), 1) := by decide +kernel
theorem dX0_firstDry_1 : decode cX0_firstDry 1 = .ok (.istore_n 2, 1) := by decide +kernel
theorem dX0_firstDry_2 : decode cX0_firstDry 2 = .ok (.iconst 0, 1) := by decide +kernel
theorem dX0_firstDry_3 : decode cX0_firstDry 3 = .ok (.istore_n 3, 1) := by decide +kernel
theorem dX0_firstDry_4 : decode cX0_firstDry 4 = .ok (.iload_n 3, 1) := by decide +kernel
theorem dX0_firstDry_5 : decode cX0_firstDry 5 = .ok (.aload_n 0, 1) := by decide +kernel
theorem dX0_firstDry_6 : decode cX0_firstDry 6 = .ok (.getfield 57, 3) := by decide +kernel
theorem dX0_firstDry_9 : decode cX0_firstDry 9 = .ok (.iconst 5, 1) := by decide +kernel
theorem dX0_firstDry_10 : decode cX0_firstDry 10 = .ok (.invokevirtual 68, 3) := by decide +kernel
theorem dX0_firstDry_13 : decode cX0_firstDry 13 = .ok (.if_icmp .ge 51, 3) := by decide +kernel
theorem dX0_firstDry_16 : decode cX0_firstDry 16 = .ok (.iload_n 1, 1) := by decide +kernel
theorem dX0_firstDry_17 : decode cX0_firstDry 17 = .ok (.iload_n 3, 1) := by decide +kernel
theorem dX0_firstDry_18 : decode cX0_firstDry 18 = .ok (.ishr, 1) := by decide +kernel
theorem dX0_firstDry_19 : decode cX0_firstDry 19 = .ok (.iconst 1, 1) := by decide +kernel
theorem dX0_firstDry_20 : decode cX0_firstDry 20 = .ok (.iand, 1) := by decide +kernel
theorem dX0_firstDry_21 : decode cX0_firstDry 21 = .ok (.ifCond .ne 7, 3) := by decide +kernel
theorem dX0_firstDry_24 : decode cX0_firstDry 24 = .ok (.iconst 1, 1) := by decide +kernel
theorem dX0_firstDry_25 : decode cX0_firstDry 25 = .ok (.goto 4, 3) := by decide +kernel
theorem dX0_firstDry_28 : decode cX0_firstDry 28 = .ok (.iconst 0, 1) := by decide +kernel
theorem dX0_firstDry_29 : decode cX0_firstDry 29 = .ok (.istore 4, 2) := by decide +kernel
theorem dX0_firstDry_31 : decode cX0_firstDry 31 = .ok (.iload 4, 2) := by decide +kernel
theorem dX0_firstDry_33 : decode cX0_firstDry 33 = .ok (.ifCond .eq 25, 3) := by decide +kernel
theorem dX0_firstDry_36 : decode cX0_firstDry 36 = .ok (.iload_n 2, 1) := by decide +kernel
theorem dX0_firstDry_37 : decode cX0_firstDry 37 = .ok (.iconst (-1), 1) := by decide +kernel
theorem dX0_firstDry_38 : decode cX0_firstDry 38 = .ok (.if_icmp .eq 18, 3) := by decide +kernel
theorem dX0_firstDry_41 : decode cX0_firstDry 41 = .ok (.aload_n 0, 1) := by decide +kernel
theorem dX0_firstDry_42 : decode cX0_firstDry 42 = .ok (.iload_n 3, 1) := by decide +kernel
theorem dX0_firstDry_43 : decode cX0_firstDry 43 = .ok (.iconst 4, 1) := by decide +kernel
theorem dX0_firstDry_44 : decode cX0_firstDry 44 = .ok (.invokevirtual 122, 3) := by decide +kernel
theorem dX0_firstDry_47 : decode cX0_firstDry 47 = .ok (.aload_n 0, 1) := by decide +kernel
theorem dX0_firstDry_48 : decode cX0_firstDry 48 = .ok (.iload_n 2, 1) := by decide +kernel
theorem dX0_firstDry_49 : decode cX0_firstDry 49 = .ok (.iconst 4, 1) := by decide +kernel
theorem dX0_firstDry_50 : decode cX0_firstDry 50 = .ok (.invokevirtual 122, 3) := by decide +kernel
theorem dX0_firstDry_53 : decode cX0_firstDry 53 = .ok (.if_icmp .ge 5, 3) := by decide +kernel
theorem dX0_firstDry_56 : decode cX0_firstDry 56 = .ok (.iload_n 3, 1) := by decide +kernel
theorem dX0_firstDry_57 : decode cX0_firstDry 57 = .ok (.istore_n 2, 1) := by decide +kernel
theorem dX0_firstDry_58 : decode cX0_firstDry 58 = .ok (.iinc 3 1, 3) := by decide +kernel
theorem dX0_firstDry_61 : decode cX0_firstDry 61 = .ok (.goto (-57), 3) := by decide +kernel
theorem dX0_firstDry_64 : decode cX0_firstDry 64 = .ok (.iload_n 2, 1) := by decide +kernel
theorem dX0_firstDry_65 : decode cX0_firstDry 65 = .ok (.ireturn, 1) := by decide +kernel
set_option maxRecDepth 20000 in
theorem ggX0_ironOne_X0_fact : GoodIn wsX0_ironOne wsX0_fact := goodIn_r _ [11, 12, 13, 14, 15, 16, 17, 18, 32, 33, 34, 35, 36, 37, 38, 39, 40, 41, 42, 43, 44, 45, 46, 47, 54] (by decide +kernel) (by decide +kernel)
set_option maxRecDepth 20000 in
theorem gX0_ironOne_X0_fact : GoodIn wsX0_ironOne (wsV RX0 122 RX0 yX0_fact wsX0_fact) := goodIn_app (goodIn_of _ (by decide +kernel)) ggX0_ironOne_X0_fact
set_option maxRecDepth 20000 in
theorem ggX0_ironOne_X4_read : GoodIn wsX0_ironOne wsX4_read := goodIn_r _ [17, 18, 54] (by decide +kernel) (by decide +kernel)
set_option maxRecDepth 20000 in
theorem gX0_ironOne_X4_read : GoodIn wsX0_ironOne (wsV RX0 68 RX4 yX4_read wsX4_read) := goodIn_app (goodIn_of _ (by decide +kernel)) ggX0_ironOne_X4_read
set_option maxRecDepth 20000 in
theorem ggX0_ironOne_X0_note : GoodIn wsX0_ironOne wsX0_note := goodIn_r _ [22, 12, 23, 24, 25, 16, 26, 18, 32, 33, 34, 35, 36, 37, 38, 39, 40, 41, 42, 43, 44, 45, 46, 47, 54] (by decide +kernel) (by decide +kernel)
set_option maxRecDepth 20000 in
theorem gX0_ironOne_X0_note : GoodIn wsX0_ironOne (wsV RX0 110 RX0 yX0_note wsX0_note) := goodIn_app (goodIn_of _ (by decide +kernel)) ggX0_ironOne_X0_note
set_option maxRecDepth 20000 in
theorem ggX0_ironOne_X0_firstIron : GoodIn wsX0_ironOne wsX0_firstIron := goodIn_r _ [30, 31, 2, 13, 14, 15, 16, 17, 18, 32, 33, 34, 35, 36, 37, 38, 39, 40, 41, 42, 43, 44, 45, 46, 47, 54] (by decide +kernel) (by decide +kernel)
set_option maxRecDepth 20000 in
theorem gX0_ironOne_X0_firstIron : GoodIn wsX0_ironOne (wsV RX0 164 RX0 yX0_firstIron wsX0_firstIron) := goodIn_app (goodIn_of _ (by decide +kernel)) ggX0_ironOne_X0_firstIron
set_option maxRecDepth 20000 in
theorem ggX0_ironOne_X4_write : GoodIn wsX0_ironOne wsX4_write := goodIn_r _ [26, 18, 54] (by decide +kernel) (by decide +kernel)
set_option maxRecDepth 20000 in
theorem gX0_ironOne_X4_write : GoodIn wsX0_ironOne (wsV RX0 72 RX4 yX4_write wsX4_write) := goodIn_app (goodIn_of _ (by decide +kernel)) ggX0_ironOne_X4_write
theorem dX0_ironOne_0 : decode cX0_ironOne 0 = .ok (.aload_n 0, 1) := by decide +kernel
theorem dX0_ironOne_1 : decode cX0_ironOne 1 = .ok (.iload_n 1, 1) := by decide +kernel
theorem dX0_ironOne_2 : decode cX0_ironOne 2 = .ok (.iconst 4, 1) := by decide +kernel
theorem dX0_ironOne_3 : decode cX0_ironOne 3 = .ok (.invokevirtual 122, 3) := by decide +kernel
theorem dX0_ironOne_6 : decode cX0_ironOne 6 = .ok (.istore_n 2, 1) := by decide +kernel
theorem dX0_ironOne_7 : decode cX0_ironOne 7 = .ok (.aload_n 0, 1) := by decide +kernel
theorem dX0_ironOne_8 : decode cX0_ironOne 8 = .ok (.getfield 60, 3) := by decide +kernel
theorem dX0_ironOne_11 : decode cX0_ironOne 11 = .ok (.getfield 161, 3) := by decide +kernel
theorem dX0_ironOne_14 : decode cX0_ironOne 14 = .ok (.aload_n 0, 1) := by decide +kernel
theorem dX0_ironOne_15 : decode cX0_ironOne 15 = .ok (.iload_n 1, 1) := by decide +kernel
theorem dX0_ironOne_16 : decode cX0_ironOne 16 = .ok (.iconst 0, 1) := by decide +kernel
theorem dX0_ironOne_17 : decode cX0_ironOne 17 = .ok (.invokevirtual 122, 3) := by decide +kernel
theorem dX0_ironOne_20 : decode cX0_ironOne 20 = .ok (.invokevirtual 68, 3) := by decide +kernel
theorem dX0_ironOne_23 : decode cX0_ironOne 23 = .ok (.istore_n 3, 1) := by decide +kernel
theorem dX0_ironOne_24 : decode cX0_ironOne 24 = .ok (.iload_n 3, 1) := by decide +kernel
theorem dX0_ironOne_25 : decode cX0_ironOne 25 = .ok (.ifCond .ne 12, 3) := by decide +kernel
theorem dX0_ironOne_28 : decode cX0_ironOne 28 = .ok (.aload_n 0, 1) := by decide +kernel
theorem dX0_ironOne_29 : decode cX0_ironOne 29 = .ok (.iload_n 1, 1) := by decide +kernel
theorem dX0_ironOne_30 : decode cX0_ironOne 30 = .ok (.bipush 6, 2) := by decide +kernel
theorem dX0_ironOne_32 : decode cX0_ironOne 32 = .ok (.iload_n 2, 1) := by decide +kernel
theorem dX0_ironOne_33 : decode cX0_ironOne 33 = .ok (.invokevirtual 110, 3) := by decide +kernel
theorem dX0_ironOne_36 : decode cX0_ironOne 36 = .ok (.return_, 1) := by decide +kernel
theorem dX0_ironOne_37 : decode cX0_ironOne 37 = .ok (.aload_n 0, 1) := by decide +kernel
theorem dX0_ironOne_38 : decode cX0_ironOne 38 = .ok (.invokevirtual 164, 3) := by decide +kernel
theorem dX0_ironOne_41 : decode cX0_ironOne 41 = .ok (.istore 4, 2) := by decide +kernel
theorem dX0_ironOne_43 : decode cX0_ironOne 43 = .ok (.iload_n 2, 1) := by decide +kernel
theorem dX0_ironOne_44 : decode cX0_ironOne 44 = .ok (.aload_n 0, 1) := by decide +kernel
theorem dX0_ironOne_45 : decode cX0_ironOne 45 = .ok (.getfield 48, 3) := by decide +kernel
theorem dX0_ironOne_48 : decode cX0_ironOne 48 = .ok (.iload 4, 2) := by decide +kernel
theorem dX0_ironOne_50 : decode cX0_ironOne 50 = .ok (.invokevirtual 68, 3) := by decide +kernel
theorem dX0_ironOne_53 : decode cX0_ironOne 53 = .ok (.invokestatic 156, 3) := by decide +kernel
theorem dX0_ironOne_56 : decode cX0_ironOne 56 = .ok (.iload_n 3, 1) := by decide +kernel
theorem dX0_ironOne_57 : decode cX0_ironOne 57 = .ok (.iadd, 1) := by decide +kernel
theorem dX0_ironOne_58 : decode cX0_ironOne 58 = .ok (.istore 5, 2) := by decide +kernel
theorem dX0_ironOne_60 : decode cX0_ironOne 60 = .ok (.aload_n 0, 1) := by decide +kernel
theorem dX0_ironOne_61 : decode cX0_ironOne 61 = .ok (.getfield 48, 3) := by decide +kernel
theorem dX0_ironOne_64 : decode cX0_ironOne 64 = .ok (.iload 4, 2) := by decide +kernel
theorem dX0_ironOne_66 : decode cX0_ironOne 66 = .ok (.iload 5, 2) := by decide +kernel
theorem dX0_ironOne_68 : decode cX0_ironOne 68 = .ok (.invokevirtual 72, 3) := by decide +kernel
theorem dX0_ironOne_71 : decode cX0_ironOne 71 = .ok (.aload_n 0, 1) := by decide +kernel
theorem dX0_ironOne_72 : decode cX0_ironOne 72 = .ok (.iload_n 1, 1) := by decide +kernel
theorem dX0_ironOne_73 : decode cX0_ironOne 73 = .ok (.iconst 5, 1) := by decide +kernel
theorem dX0_ironOne_74 : decode cX0_ironOne 74 = .ok (.iload 4, 2) := by decide +kernel
theorem dX0_ironOne_76 : decode cX0_ironOne 76 = .ok (.invokevirtual 110, 3) := by decide +kernel
theorem dX0_ironOne_79 : decode cX0_ironOne 79 = .ok (.aload_n 0, 1) := by decide +kernel
theorem dX0_ironOne_80 : decode cX0_ironOne 80 = .ok (.iload_n 1, 1) := by decide +kernel
theorem dX0_ironOne_81 : decode cX0_ironOne 81 = .ok (.bipush 6, 2) := by decide +kernel
theorem dX0_ironOne_83 : decode cX0_ironOne 83 = .ok (.iload 5, 2) := by decide +kernel
theorem dX0_ironOne_85 : decode cX0_ironOne 85 = .ok (.invokevirtual 110, 3) := by decide +kernel
theorem dX0_ironOne_88 : decode cX0_ironOne 88 = .ok (.return_, 1) := by decide +kernel
set_option maxRecDepth 20000 in
theorem ggX0_firstIron_X4_read : GoodIn wsX0_firstIron wsX4_read := goodIn_r _ [7, 8, 25] (by decide +kernel) (by decide +kernel)
set_option maxRecDepth 20000 in
theorem gX0_firstIron_X4_read : GoodIn wsX0_firstIron (wsV RX0 68 RX4 yX4_read wsX4_read) := goodIn_app (goodIn_of _ (by decide +kernel)) ggX0_firstIron_X4_read
theorem dX0_firstIron_0 : decode cX0_firstIron 0 = .ok (.iconst 0, 1) := by decide +kernel
theorem dX0_firstIron_1 : decode cX0_firstIron 1 = .ok (.istore_n 1, 1) := by decide +kernel
theorem dX0_firstIron_2 : decode cX0_firstIron 2 = .ok (.iconst 1, 1) := by decide +kernel
theorem dX0_firstIron_3 : decode cX0_firstIron 3 = .ok (.istore_n 2, 1) := by decide +kernel
theorem dX0_firstIron_4 : decode cX0_firstIron 4 = .ok (.iload_n 2, 1) := by decide +kernel
theorem dX0_firstIron_5 : decode cX0_firstIron 5 = .ok (.aload_n 0, 1) := by decide +kernel
theorem dX0_firstIron_6 : decode cX0_firstIron 6 = .ok (.getfield 18, 3) := by decide +kernel
theorem dX0_firstIron_9 : decode cX0_firstIron 9 = .ok (.if_icmp .ge 30, 3) := by decide +kernel
theorem dX0_firstIron_12 : decode cX0_firstIron 12 = .ok (.aload_n 0, 1) := by decide +kernel
theorem dX0_firstIron_13 : decode cX0_firstIron 13 = .ok (.getfield 48, 3) := by decide +kernel
theorem dX0_firstIron_16 : decode cX0_firstIron 16 = .ok (.iload_n 2, 1) := by decide +kernel
theorem dX0_firstIron_17 : decode cX0_firstIron 17 = .ok (.invokevirtual 68, 3) := by decide +kernel
theorem dX0_firstIron_20 : decode cX0_firstIron 20 = .ok (.aload_n 0, 1) := by decide +kernel
theorem dX0_firstIron_21 : decode cX0_firstIron 21 = .ok (.getfield 48, 3) := by decide +kernel
theorem dX0_firstIron_24 : decode cX0_firstIron 24 = .ok (.iload_n 1, 1) := by decide +kernel
theorem dX0_firstIron_25 : decode cX0_firstIron 25 = .ok (.invokevirtual 68, 3) := by decide +kernel
theorem dX0_firstIron_28 : decode cX0_firstIron 28 = .ok (.if_icmp .ge 5, 3) := by decide +kernel
theorem dX0_firstIron_31 : decode cX0_firstIron 31 = .ok (.iload_n 2, 1) := by decide +kernel
theorem dX0_firstIron_32 : decode cX0_firstIron 32 = .ok (.istore_n 1, 1) := by decide +kernel
theorem dX0_firstIron_33 : decode cX0_firstIron 33 = .ok (.iinc 2 1, 3) := by decide +kernel
theorem dX0_firstIron_36 : decode cX0_firstIron 36 = .ok (.goto (-32), 3) := by decide +kernel
theorem dX0_firstIron_39 : decode cX0_firstIron 39 = .ok (.iload_n 1, 1) := by decide +kernel
theorem dX0_firstIron_40 : decode cX0_firstIron 40 = .ok (.ireturn, 1) := by decide +kernel
set_option maxRecDepth 20000 in
theorem ggX1_init_X4_init : GoodIn wsX1_init wsX4_init := goodIn_r _ [15, 16, 2, 3, 17, 18, 25] (by decide +kernel) (by decide +kernel)
set_option maxRecDepth 20000 in
theorem gX1_init_X4_init : GoodIn wsX1_init (wsX4_init) := ggX1_init_X4_init
theorem dX1_init_0 : decode cX1_init 0 = .ok (.aload_n 0, 1) := by decide +kernel
theorem dX1_init_1 : decode cX1_init 1 = .ok (.invokespecial 3, 3) := by decide +kernel
theorem dX1_init_4 : decode cX1_init 4 = .ok (.aload_n 0, 1) := by decide +kernel
theorem dX1_init_5 : decode cX1_init 5 = .ok (.iconst 0, 1) := by decide +kernel
theorem dX1_init_6 : decode cX1_init 6 = .ok (.putfield 9, 3) := by decide +kernel
theorem dX1_init_9 : decode cX1_init 9 = .ok (.aload_n 0, 1) := by decide +kernel
theorem dX1_init_10 : decode cX1_init 10 = .ok (.new 15, 3) := by decide +kernel
theorem dX1_init_13 : decode cX1_init 13 = .ok (.dup, 1) := by decide +kernel
theorem dX1_init_14 : decode cX1_init 14 = .ok (.bipush 8, 2) := by decide +kernel
theorem dX1_init_16 : decode cX1_init 16 = .ok (.invokespecial 17, 3) := by decide +kernel
theorem dX1_init_19 : decode cX1_init 19 = .ok (.putfield 20, 3) := by decide +kernel
theorem dX1_init_22 : decode cX1_init 22 = .ok (.aload_n 0, 1) := by decide +kernel
theorem dX1_init_23 : decode cX1_init 23 = .ok (.new 15, 3) := by decide +kernel
theorem dX1_init_26 : decode cX1_init 26 = .ok (.dup, 1) := by decide +kernel
theorem dX1_init_27 : decode cX1_init 27 = .ok (.bipush 8, 2) := by decide +kernel
theorem dX1_init_29 : decode cX1_init 29 = .ok (.invokespecial 17, 3) := by decide +kernel
theorem dX1_init_32 : decode cX1_init 32 = .ok (.putfield 24, 3) := by decide +kernel
theorem dX1_init_35 : decode cX1_init 35 = .ok (.aload_n 0, 1) := by decide +kernel
theorem dX1_init_36 : decode cX1_init 36 = .ok (.new 15, 3) := by decide +kernel
theorem dX1_init_39 : decode cX1_init 39 = .ok (.dup, 1) := by decide +kernel
theorem dX1_init_40 : decode cX1_init 40 = .ok (.bipush 8, 2) := by decide +kernel
theorem dX1_init_42 : decode cX1_init 42 = .ok (.invokespecial 17, 3) := by decide +kernel
theorem dX1_init_45 : decode cX1_init 45 = .ok (.putfield 27, 3) := by decide +kernel
theorem dX1_init_48 : decode cX1_init 48 = .ok (.aload_n 0, 1) := by decide +kernel
theorem dX1_init_49 : decode cX1_init 49 = .ok (.new 15, 3) := by decide +kernel
theorem dX1_init_52 : decode cX1_init 52 = .ok (.dup, 1) := by decide +kernel
theorem dX1_init_53 : decode cX1_init 53 = .ok (.bipush 8, 2) := by decide +kernel
theorem dX1_init_55 : decode cX1_init 55 = .ok (.invokespecial 17, 3) := by decide +kernel
theorem dX1_init_58 : decode cX1_init 58 = .ok (.putfield 30, 3) := by decide +kernel
theorem dX1_init_61 : decode cX1_init 61 = .ok (.aload_n 0, 1) := by decide +kernel
theorem dX1_init_62 : decode cX1_init 62 = .ok (.new 15, 3) := by decide +kernel
theorem dX1_init_65 : decode cX1_init 65 = .ok (.dup, 1) := by decide +kernel
theorem dX1_init_66 : decode cX1_init 66 = .ok (.bipush 8, 2) := by decide +kernel
theorem dX1_init_68 : decode cX1_init 68 = .ok (.invokespecial 17, 3) := by decide +kernel
theorem dX1_init_71 : decode cX1_init 71 = .ok (.putfield 33, 3) := by decide +kernel
theorem dX1_init_74 : decode cX1_init 74 = .ok (.return_, 1) := by decide +kernel
set_option maxRecDepth 20000 in
theorem ggX1_add_X4_write : GoodIn wsX1_add wsX4_write := goodIn_r _ [11, 12, 19] (by decide +kernel) (by decide +kernel)
set_option maxRecDepth 20000 in
theorem gX1_add_X4_write : GoodIn wsX1_add (wsV RX1 36 RX4 yX4_write wsX4_write) := goodIn_app (goodIn_of _ (by decide +kernel)) ggX1_add_X4_write
theorem dX1_add_0 : decode cX1_add 0 = .ok (.aload_n 0, 1) := by decide +kernel
theorem dX1_add_1 : decode cX1_add 1 = .ok (.getfield 20, 3) := by decide +kernel
theorem dX1_add_4 : decode cX1_add 4 = .ok (.aload_n 0, 1) := by decide +kernel
theorem dX1_add_5 : decode cX1_add 5 = .ok (.getfield 9, 3) := by decide +kernel
theorem dX1_add_8 : decode cX1_add 8 = .ok (.iload_n 1, 1) := by decide +kernel
theorem dX1_add_9 : decode cX1_add 9 = .ok (.invokevirtual 36, 3) := by decide +kernel
theorem dX1_add_12 : decode cX1_add 12 = .ok (.aload_n 0, 1) := by decide +kernel
theorem dX1_add_13 : decode cX1_add 13 = .ok (.getfield 24, 3) := by decide +kernel
theorem dX1_add_16 : decode cX1_add 16 = .ok (.aload_n 0, 1) := by decide +kernel
theorem dX1_add_17 : decode cX1_add 17 = .ok (.getfield 9, 3) := by decide +kernel
theorem dX1_add_20 : decode cX1_add 20 = .ok (.iload_n 2, 1) := by decide +kernel
theorem dX1_add_21 : decode cX1_add 21 = .ok (.invokevirtual 36, 3) := by decide +kernel
theorem dX1_add_24 : decode cX1_add 24 = .ok (.aload_n 0, 1) := by decide +kernel
theorem dX1_add_25 : decode cX1_add 25 = .ok (.getfield 27, 3) := by decide +kernel
theorem dX1_add_28 : decode cX1_add 28 = .ok (.aload_n 0, 1) := by decide +kernel
theorem dX1_add_29 : decode cX1_add 29 = .ok (.getfield 9, 3) := by decide +kernel
theorem dX1_add_32 : decode cX1_add 32 = .ok (.iload_n 3, 1) := by decide +kernel
theorem dX1_add_33 : decode cX1_add 33 = .ok (.ifCond .eq 7, 3) := by decide +kernel
theorem dX1_add_36 : decode cX1_add 36 = .ok (.iconst 1, 1) := by decide +kernel
theorem dX1_add_37 : decode cX1_add 37 = .ok (.goto 4, 3) := by decide +kernel
theorem dX1_add_40 : decode cX1_add 40 = .ok (.iconst 0, 1) := by decide +kernel
theorem dX1_add_41 : decode cX1_add 41 = .ok (.invokevirtual 36, 3) := by decide +kernel
theorem dX1_add_44 : decode cX1_add 44 = .ok (.aload_n 0, 1) := by decide +kernel
theorem dX1_add_45 : decode cX1_add 45 = .ok (.getfield 30, 3) := by decide +kernel
theorem dX1_add_48 : decode cX1_add 48 = .ok (.aload_n 0, 1) := by decide +kernel
theorem dX1_add_49 : decode cX1_add 49 = .ok (.getfield 9, 3) := by decide +kernel
theorem dX1_add_52 : decode cX1_add 52 = .ok (.iload 4, 2) := by decide +kernel
theorem dX1_add_54 : decode cX1_add 54 = .ok (.invokevirtual 36, 3) := by decide +kernel
theorem dX1_add_57 : decode cX1_add 57 = .ok (.aload_n 0, 1) := by decide +kernel
theorem dX1_add_58 : decode cX1_add 58 = .ok (.getfield 33, 3) := by decide +kernel
theorem dX1_add_61 : decode cX1_add 61 = .ok (.aload_n 0, 1) := by decide +kernel
theorem dX1_add_62 : decode cX1_add 62 = .ok (.getfield 9, 3) := by decide +kernel
theorem dX1_add_65 : decode cX1_add 65 = .ok (.iload 5, 2) := by decide +kernel
theorem dX1_add_67 : decode cX1_add 67 = .ok (.invokevirtual 36, 3) := by decide +kernel
theorem dX1_add_70 : decode cX1_add 70 = .ok (.aload_n 0, 1) := by decide +kernel
theorem dX1_add_71 : decode cX1_add 71 = .ok (.dup, 1) := by decide +kernel
theorem dX1_add_72 : decode cX1_add 72 = .ok (.getfield 9, 3) := by decide +kernel
theorem dX1_add_75 : decode cX1_add 75 = .ok (.iconst 1, 1) := by decide +kernel
theorem dX1_add_76 : decode cX1_add 76 = .ok (.iadd, 1) := by decide +kernel
theorem dX1_add_77 : decode cX1_add 77 = .ok (.putfield 9, 3) := by decide +kernel
theorem dX1_add_80 : decode cX1_add 80 = .ok (.aload_n 0, 1) := by decide +kernel
theorem dX1_add_81 : decode cX1_add 81 = .ok (.getfield 9, 3) := by decide +kernel
theorem dX1_add_84 : decode cX1_add 84 = .ok (.iconst 1, 1) := by decide +kernel
theorem dX1_add_85 : decode cX1_add 85 = .ok (.isub, 1) := by decide +kernel
theorem dX1_add_86 : decode cX1_add 86 = .ok (.ireturn, 1) := by decide +kernel
set_option maxRecDepth 20000 in
theorem ggX1_gap_X4_read : GoodIn wsX1_gap wsX4_read := goodIn_r _ [15, 16, 23] (by decide +kernel) (by decide +kernel)
set_option maxRecDepth 20000 in
theorem gX1_gap_X4_read : GoodIn wsX1_gap (wsV RX1 40 RX4 yX4_read wsX4_read) := goodIn_app (goodIn_of _ (by decide +kernel)) ggX1_gap_X4_read
theorem dX1_gap_0 : decode cX1_gap 0 = .ok (.iconst 0, 1) := by decide +kernel
theorem dX1_gap_1 : decode cX1_gap 1 = .ok (.aload_n 0, 1) := by decide +kernel
theorem dX1_gap_2 : decode cX1_gap 2 = .ok (.getfield 24, 3) := by decide +kernel
theorem dX1_gap_5 : decode cX1_gap 5 = .ok (.iload_n 1, 1) := by decide +kernel
theorem dX1_gap_6 : decode cX1_gap 6 = .ok (.invokevirtual 40, 3) := by decide +kernel
theorem dX1_gap_9 : decode cX1_gap 9 = .ok (.aload_n 0, 1) := by decide +kernel
theorem dX1_gap_10 : decode cX1_gap 10 = .ok (.getfield 24, 3) := by decide +kernel
theorem dX1_gap_13 : decode cX1_gap 13 = .ok (.iload_n 2, 1) := by decide +kernel
theorem dX1_gap_14 : decode cX1_gap 14 = .ok (.invokevirtual 40, 3) := by decide +kernel
theorem dX1_gap_17 : decode cX1_gap 17 = .ok (.isub, 1) := by decide +kernel
theorem dX1_gap_18 : decode cX1_gap 18 = .ok (.invokestatic 44, 3) := by decide +kernel
theorem dX1_gap_21 : decode cX1_gap 21 = .ok (.istore_n 3, 1) := by decide +kernel
theorem dX1_gap_22 : decode cX1_gap 22 = .ok (.aload_n 0, 1) := by decide +kernel
theorem dX1_gap_23 : decode cX1_gap 23 = .ok (.getfield 20, 3) := by decide +kernel
theorem dX1_gap_26 : decode cX1_gap 26 = .ok (.iload_n 1, 1) := by decide +kernel
theorem dX1_gap_27 : decode cX1_gap 27 = .ok (.invokevirtual 40, 3) := by decide +kernel
theorem dX1_gap_30 : decode cX1_gap 30 = .ok (.aload_n 0, 1) := by decide +kernel
theorem dX1_gap_31 : decode cX1_gap 31 = .ok (.getfield 20, 3) := by decide +kernel
theorem dX1_gap_34 : decode cX1_gap 34 = .ok (.iload_n 2, 1) := by decide +kernel
theorem dX1_gap_35 : decode cX1_gap 35 = .ok (.invokevirtual 40, 3) := by decide +kernel
theorem dX1_gap_38 : decode cX1_gap 38 = .ok (.isub, 1) := by decide +kernel
theorem dX1_gap_39 : decode cX1_gap 39 = .ok (.invokestatic 50, 3) := by decide +kernel
theorem dX1_gap_42 : decode cX1_gap 42 = .ok (.iconst 1, 1) := by decide +kernel
theorem dX1_gap_43 : decode cX1_gap 43 = .ok (.if_icmp .le 6, 3) := by decide +kernel
theorem dX1_gap_46 : decode cX1_gap 46 = .ok (.iinc 3 1, 3) := by decide +kernel
theorem dX1_gap_49 : decode cX1_gap 49 = .ok (.aload_n 0, 1) := by decide +kernel
theorem dX1_gap_50 : decode cX1_gap 50 = .ok (.getfield 27, 3) := by decide +kernel
theorem dX1_gap_53 : decode cX1_gap 53 = .ok (.iload_n 1, 1) := by decide +kernel
theorem dX1_gap_54 : decode cX1_gap 54 = .ok (.invokevirtual 40, 3) := by decide +kernel
theorem dX1_gap_57 : decode cX1_gap 57 = .ok (.iconst 1, 1) := by decide +kernel
theorem dX1_gap_58 : decode cX1_gap 58 = .ok (.if_icmp .ne 17, 3) := by decide +kernel
theorem dX1_gap_61 : decode cX1_gap 61 = .ok (.aload_n 0, 1) := by decide +kernel
theorem dX1_gap_62 : decode cX1_gap 62 = .ok (.getfield 27, 3) := by decide +kernel
theorem dX1_gap_65 : decode cX1_gap 65 = .ok (.iload_n 2, 1) := by decide +kernel
theorem dX1_gap_66 : decode cX1_gap 66 = .ok (.invokevirtual 40, 3) := by decide +kernel
theorem dX1_gap_69 : decode cX1_gap 69 = .ok (.ifCond .ne 6, 3) := by decide +kernel
theorem dX1_gap_72 : decode cX1_gap 72 = .ok (.iinc 3 2, 3) := by decide +kernel
theorem dX1_gap_75 : decode cX1_gap 75 = .ok (.iload_n 3, 1) := by decide +kernel
theorem dX1_gap_76 : decode cX1_gap 76 = .ok (.ireturn, 1) := by decide +kernel
set_option maxRecDepth 20000 in
theorem ggX2_init_X4_init : GoodIn wsX2_init wsX4_init := goodIn_r _ [16, 17, 2, 3, 18, 19, 27] (by decide +kernel) (by decide +kernel)
set_option maxRecDepth 20000 in
theorem gX2_init_X4_init : GoodIn wsX2_init (wsX4_init) := ggX2_init_X4_init
theorem dX2_init_0 : decode cX2_init 0 = .ok (.aload_n 0, 1) := by decide +kernel
theorem dX2_init_1 : decode cX2_init 1 = .ok (.invokespecial 3, 3) := by decide +kernel
theorem dX2_init_4 : decode cX2_init 4 = .ok (.aload_n 0, 1) := by decide +kernel
theorem dX2_init_5 : decode cX2_init 5 = .ok (.iconst 0, 1) := by decide +kernel
theorem dX2_init_6 : decode cX2_init 6 = .ok (.putfield 9, 3) := by decide +kernel
theorem dX2_init_9 : decode cX2_init 9 = .ok (.aload_n 0, 1) := by decide +kernel
theorem dX2_init_10 : decode cX2_init 10 = .ok (.new 15, 3) := by decide +kernel
theorem dX2_init_13 : decode cX2_init 13 = .ok (.dup, 1) := by decide +kernel
theorem dX2_init_14 : decode cX2_init 14 = .ok (.bipush 100, 2) := by decide +kernel
theorem dX2_init_16 : decode cX2_init 16 = .ok (.invokespecial 17, 3) := by decide +kernel
theorem dX2_init_19 : decode cX2_init 19 = .ok (.putfield 20, 3) := by decide +kernel
theorem dX2_init_22 : decode cX2_init 22 = .ok (.aload_n 0, 1) := by decide +kernel
theorem dX2_init_23 : decode cX2_init 23 = .ok (.new 15, 3) := by decide +kernel
theorem dX2_init_26 : decode cX2_init 26 = .ok (.dup, 1) := by decide +kernel
theorem dX2_init_27 : decode cX2_init 27 = .ok (.bipush 100, 2) := by decide +kernel
theorem dX2_init_29 : decode cX2_init 29 = .ok (.invokespecial 17, 3) := by decide +kernel
theorem dX2_init_32 : decode cX2_init 32 = .ok (.putfield 24, 3) := by decide +kernel
theorem dX2_init_35 : decode cX2_init 35 = .ok (.aload_n 0, 1) := by decide +kernel
theorem dX2_init_36 : decode cX2_init 36 = .ok (.new 15, 3) := by decide +kernel
theorem dX2_init_39 : decode cX2_init 39 = .ok (.dup, 1) := by decide +kernel
theorem dX2_init_40 : decode cX2_init 40 = .ok (.bipush 100, 2) := by decide +kernel
theorem dX2_init_42 : decode cX2_init 42 = .ok (.invokespecial 17, 3) := by decide +kernel
theorem dX2_init_45 : decode cX2_init 45 = .ok (.putfield 27, 3) := by decide +kernel
theorem dX2_init_48 : decode cX2_init 48 = .ok (.aload_n 0, 1) := by decide +kernel
theorem dX2_init_49 : decode cX2_init 49 = .ok (.new 15, 3) := by decide +kernel
theorem dX2_init_52 : decode cX2_init 52 = .ok (.dup, 1) := by decide +kernel
theorem dX2_init_53 : decode cX2_init 53 = .ok (.bipush 100, 2) := by decide +kernel
theorem dX2_init_55 : decode cX2_init 55 = .ok (.invokespecial 17, 3) := by decide +kernel
theorem dX2_init_58 : decode cX2_init 58 = .ok (.putfield 30, 3) := by decide +kernel
theorem dX2_init_61 : decode cX2_init 61 = .ok (.aload_n 0, 1) := by decide +kernel
theorem dX2_init_62 : decode cX2_init 62 = .ok (.new 15, 3) := by decide +kernel
theorem dX2_init_65 : decode cX2_init 65 = .ok (.dup, 1) := by decide +kernel
theorem dX2_init_66 : decode cX2_init 66 = .ok (.bipush 100, 2) := by decide +kernel
theorem dX2_init_68 : decode cX2_init 68 = .ok (.invokespecial 17, 3) := by decide +kernel
theorem dX2_init_71 : decode cX2_init 71 = .ok (.putfield 33, 3) := by decide +kernel
theorem dX2_init_74 : decode cX2_init 74 = .ok (.aload_n 0, 1) := by decide +kernel
theorem dX2_init_75 : decode cX2_init 75 = .ok (.new 15, 3) := by decide +kernel
theorem dX2_init_78 : decode cX2_init 78 = .ok (.dup, 1) := by decide +kernel
theorem dX2_init_79 : decode cX2_init 79 = .ok (.bipush 100, 2) := by decide +kernel
theorem dX2_init_81 : decode cX2_init 81 = .ok (.invokespecial 17, 3) := by decide +kernel
theorem dX2_init_84 : decode cX2_init 84 = .ok (.putfield 36, 3) := by decide +kernel
theorem dX2_init_87 : decode cX2_init 87 = .ok (.return_, 1) := by decide +kernel
set_option maxRecDepth 20000 in
theorem ggX2_add_X4_write : GoodIn wsX2_add wsX4_write := goodIn_r _ [12, 13, 21] (by decide +kernel) (by decide +kernel)
set_option maxRecDepth 20000 in
theorem gX2_add_X4_write : GoodIn wsX2_add (wsV RX2 39 RX4 yX4_write wsX4_write) := goodIn_app (goodIn_of _ (by decide +kernel)) ggX2_add_X4_write
theorem dX2_add_0 : decode cX2_add 0 = .ok (.aload_n 0, 1) := by decide +kernel
theorem dX2_add_1 : decode cX2_add 1 = .ok (.getfield 20, 3) := by decide +kernel
theorem dX2_add_4 : decode cX2_add 4 = .ok (.aload_n 0, 1) := by decide +kernel
theorem dX2_add_5 : decode cX2_add 5 = .ok (.getfield 9, 3) := by decide +kernel
theorem dX2_add_8 : decode cX2_add 8 = .ok (.iload_n 1, 1) := by decide +kernel
theorem dX2_add_9 : decode cX2_add 9 = .ok (.invokevirtual 39, 3) := by decide +kernel
theorem dX2_add_12 : decode cX2_add 12 = .ok (.aload_n 0, 1) := by decide +kernel
theorem dX2_add_13 : decode cX2_add 13 = .ok (.getfield 24, 3) := by decide +kernel
theorem dX2_add_16 : decode cX2_add 16 = .ok (.aload_n 0, 1) := by decide +kernel
theorem dX2_add_17 : decode cX2_add 17 = .ok (.getfield 9, 3) := by decide +kernel
theorem dX2_add_20 : decode cX2_add 20 = .ok (.iload_n 2, 1) := by decide +kernel
theorem dX2_add_21 : decode cX2_add 21 = .ok (.invokevirtual 39, 3) := by decide +kernel
theorem dX2_add_24 : decode cX2_add 24 = .ok (.aload_n 0, 1) := by decide +kernel
theorem dX2_add_25 : decode cX2_add 25 = .ok (.getfield 27, 3) := by decide +kernel
theorem dX2_add_28 : decode cX2_add 28 = .ok (.aload_n 0, 1) := by decide +kernel
theorem dX2_add_29 : decode cX2_add 29 = .ok (.getfield 9, 3) := by decide +kernel
theorem dX2_add_32 : decode cX2_add 32 = .ok (.iload_n 3, 1) := by decide +kernel
theorem dX2_add_33 : decode cX2_add 33 = .ok (.ifCond .eq 7, 3) := by decide +kernel
theorem dX2_add_36 : decode cX2_add 36 = .ok (.iconst 1, 1) := by decide +kernel
theorem dX2_add_37 : decode cX2_add 37 = .ok (.goto 4, 3) := by decide +kernel
theorem dX2_add_40 : decode cX2_add 40 = .ok (.iconst 0, 1) := by decide +kernel
theorem dX2_add_41 : decode cX2_add 41 = .ok (.invokevirtual 39, 3) := by decide +kernel
theorem dX2_add_44 : decode cX2_add 44 = .ok (.aload_n 0, 1) := by decide +kernel
theorem dX2_add_45 : decode cX2_add 45 = .ok (.getfield 30, 3) := by decide +kernel
theorem dX2_add_48 : decode cX2_add 48 = .ok (.aload_n 0, 1) := by decide +kernel
theorem dX2_add_49 : decode cX2_add 49 = .ok (.getfield 9, 3) := by decide +kernel
theorem dX2_add_52 : decode cX2_add 52 = .ok (.iconst 0, 1) := by decide +kernel
theorem dX2_add_53 : decode cX2_add 53 = .ok (.invokevirtual 39, 3) := by decide +kernel
theorem dX2_add_56 : decode cX2_add 56 = .ok (.aload_n 0, 1) := by decide +kernel
theorem dX2_add_57 : decode cX2_add 57 = .ok (.getfield 33, 3) := by decide +kernel
theorem dX2_add_60 : decode cX2_add 60 = .ok (.aload_n 0, 1) := by decide +kernel
theorem dX2_add_61 : decode cX2_add 61 = .ok (.getfield 9, 3) := by decide +kernel
theorem dX2_add_64 : decode cX2_add 64 = .ok (.iconst 0, 1) := by decide +kernel
theorem dX2_add_65 : decode cX2_add 65 = .ok (.invokevirtual 39, 3) := by decide +kernel
theorem dX2_add_68 : decode cX2_add 68 = .ok (.aload_n 0, 1) := by decide +kernel
theorem dX2_add_69 : decode cX2_add 69 = .ok (.getfield 36, 3) := by decide +kernel
theorem dX2_add_72 : decode cX2_add 72 = .ok (.aload_n 0, 1) := by decide +kernel
theorem dX2_add_73 : decode cX2_add 73 = .ok (.getfield 9, 3) := by decide +kernel
theorem dX2_add_76 : decode cX2_add 76 = .ok (.iconst (-1), 1) := by decide +kernel
theorem dX2_add_77 : decode cX2_add 77 = .ok (.invokevirtual 39, 3) := by decide +kernel
theorem dX2_add_80 : decode cX2_add 80 = .ok (.aload_n 0, 1) := by decide +kernel
theorem dX2_add_81 : decode cX2_add 81 = .ok (.dup, 1) := by decide +kernel
theorem dX2_add_82 : decode cX2_add 82 = .ok (.getfield 9, 3) := by decide +kernel
theorem dX2_add_85 : decode cX2_add 85 = .ok (.iconst 1, 1) := by decide +kernel
theorem dX2_add_86 : decode cX2_add 86 = .ok (.iadd, 1) := by decide +kernel
theorem dX2_add_87 : decode cX2_add 87 = .ok (.putfield 9, 3) := by decide +kernel
theorem dX2_add_90 : decode cX2_add 90 = .ok (.aload_n 0, 1) := by decide +kernel
theorem dX2_add_91 : decode cX2_add 91 = .ok (.getfield 9, 3) := by decide +kernel
theorem dX2_add_94 : decode cX2_add 94 = .ok (.iconst 1, 1) := by decide +kernel
theorem dX2_add_95 : decode cX2_add 95 = .ok (.isub, 1) := by decide +kernel
theorem dX2_add_96 : decode cX2_add 96 = .ok (.ireturn, 1) := by decide +kernel
set_option maxRecDepth 20000 in
theorem ggX2_fits_X4_read : GoodIn wsX2_fits wsX4_read := goodIn_r _ [8, 9, 17] (by decide +kernel) (by decide +kernel)
set_option maxRecDepth 20000 in
theorem gX2_fits_X4_read : GoodIn wsX2_fits (wsV RX2 43 RX4 yX4_read wsX4_read) := goodIn_app (goodIn_of _ (by decide +kernel)) ggX2_fits_X4_read
theorem dX2_fits_0 : decode cX2_fits 0 = .ok (.aload_n 0, 1) := by decide +kernel
theorem dX2_fits_1 : decode cX2_fits 1 = .ok (.getfield 30, 3) := by decide +kernel
theorem dX2_fits_4 : decode cX2_fits 4 = .ok (.iload_n 1, 1) := by decide +kernel
theorem dX2_fits_5 : decode cX2_fits 5 = .ok (.invokevirtual 43, 3) := by decide +kernel
theorem dX2_fits_8 : decode cX2_fits 8 = .ok (.iload 4, 2) := by decide +kernel
theorem dX2_fits_10 : decode cX2_fits 10 = .ok (.if_icmp .ne 41, 3) := by decide +kernel
theorem dX2_fits_13 : decode cX2_fits 13 = .ok (.iload_n 2, 1) := by decide +kernel
theorem dX2_fits_14 : decode cX2_fits 14 = .ok (.iconst (-1), 1) := by decide +kernel
theorem dX2_fits_15 : decode cX2_fits 15 = .ok (.if_icmp .eq 15, 3) := by decide +kernel
theorem dX2_fits_18 : decode cX2_fits 18 = .ok (.aload_n 0, 1) := by decide +kernel
theorem dX2_fits_19 : decode cX2_fits 19 = .ok (.getfield 24, 3) := by decide +kernel
theorem dX2_fits_22 : decode cX2_fits 22 = .ok (.iload_n 1, 1) := by decide +kernel
theorem dX2_fits_23 : decode cX2_fits 23 = .ok (.invokevirtual 43, 3) := by decide +kernel
theorem dX2_fits_26 : decode cX2_fits 26 = .ok (.iload_n 2, 1) := by decide +kernel
theorem dX2_fits_27 : decode cX2_fits 27 = .ok (.if_icmp .ne 24, 3) := by decide +kernel
theorem dX2_fits_30 : decode cX2_fits 30 = .ok (.iload_n 3, 1) := by decide +kernel
theorem dX2_fits_31 : decode cX2_fits 31 = .ok (.iconst (-1), 1) := by decide +kernel
theorem dX2_fits_32 : decode cX2_fits 32 = .ok (.if_icmp .eq 15, 3) := by decide +kernel
theorem dX2_fits_35 : decode cX2_fits 35 = .ok (.aload_n 0, 1) := by decide +kernel
theorem dX2_fits_36 : decode cX2_fits 36 = .ok (.getfield 20, 3) := by decide +kernel
theorem dX2_fits_39 : decode cX2_fits 39 = .ok (.iload_n 1, 1) := by decide +kernel
theorem dX2_fits_40 : decode cX2_fits 40 = .ok (.invokevirtual 43, 3) := by decide +kernel
theorem dX2_fits_43 : decode cX2_fits 43 = .ok (.iload_n 3, 1) := by decide +kernel
theorem dX2_fits_44 : decode cX2_fits 44 = .ok (.if_icmp .ne 7, 3) := by decide +kernel
theorem dX2_fits_47 : decode cX2_fits 47 = .ok (.iconst 1, 1) := by decide +kernel
theorem dX2_fits_48 : decode cX2_fits 48 = .ok (.goto 4, 3) := by decide +kernel
theorem dX2_fits_51 : decode cX2_fits 51 = .ok (.iconst 0, 1) := by decide +kernel
theorem dX2_fits_52 : decode cX2_fits 52 = .ok (.ireturn, 1) := by decide +kernel
set_option maxRecDepth 20000 in
theorem ggX2_tally_X2_fits : GoodIn wsX2_tally wsX2_fits := goodIn_r _ [6, 7, 8, 9, 10, 11, 12, 13, 14, 15, 16, 17, 18, 19, 20, 21, 22, 23] (by decide +kernel) (by decide +kernel)
set_option maxRecDepth 20000 in
theorem gX2_tally_X2_fits : GoodIn wsX2_tally (wsV RX2 47 RX2 yX2_fits wsX2_fits) := goodIn_app (goodIn_of _ (by decide +kernel)) ggX2_tally_X2_fits
theorem dX2_tally_0 : decode cX2_tally 0 = .ok (.iconst 0, 1) := by decide +kernel
theorem dX2_tally_1 : decode cX2_tally 1 = .ok (.istore 4, 2) := by decide +kernel
theorem dX2_tally_3 : decode cX2_tally 3 = .ok (.iconst 0, 1) := by decide +kernel
theorem dX2_tally_4 : decode cX2_tally 4 = .ok (.istore 5, 2) := by decide +kernel
theorem dX2_tally_6 : decode cX2_tally 6 = .ok (.iload 5, 2) := by decide +kernel
theorem dX2_tally_8 : decode cX2_tally 8 = .ok (.aload_n 0, 1) := by decide +kernel
theorem dX2_tally_9 : decode cX2_tally 9 = .ok (.getfield 9, 3) := by decide +kernel
theorem dX2_tally_12 : decode cX2_tally 12 = .ok (.if_icmp .ge 24, 3) := by decide +kernel
theorem dX2_tally_15 : decode cX2_tally 15 = .ok (.aload_n 0, 1) := by decide +kernel
theorem dX2_tally_16 : decode cX2_tally 16 = .ok (.iload 5, 2) := by decide +kernel
theorem dX2_tally_18 : decode cX2_tally 18 = .ok (.iload_n 1, 1) := by decide +kernel
theorem dX2_tally_19 : decode cX2_tally 19 = .ok (.iload_n 2, 1) := by decide +kernel
theorem dX2_tally_20 : decode cX2_tally 20 = .ok (.iload_n 3, 1) := by decide +kernel
theorem dX2_tally_21 : decode cX2_tally 21 = .ok (.invokevirtual 47, 3) := by decide +kernel
theorem dX2_tally_24 : decode cX2_tally 24 = .ok (.ifCond .eq 6, 3) := by decide +kernel
theorem dX2_tally_27 : decode cX2_tally 27 = .ok (.iinc 4 1, 3) := by decide +kernel
theorem dX2_tally_30 : decode cX2_tally 30 = .ok (.iinc 5 1, 3) := by decide +kernel
theorem dX2_tally_33 : decode cX2_tally 33 = .ok (.goto (-27), 3) := by decide +kernel
theorem dX2_tally_36 : decode cX2_tally 36 = .ok (.iload 4, 2) := by decide +kernel
theorem dX2_tally_38 : decode cX2_tally 38 = .ok (.ireturn, 1) := by decide +kernel
set_option maxRecDepth 20000 in
theorem ggX2_fillBatch_X2_fits : GoodIn wsX2_fillBatch wsX2_fits := goodIn_r _ [8, 2, 9, 10, 11, 12, 13, 14, 15, 16, 21, 22, 23, 24, 25, 26, 27, 28] (by decide +kernel) (by decide +kernel)
set_option maxRecDepth 20000 in
theorem gX2_fillBatch_X2_fits : GoodIn wsX2_fillBatch (wsV RX2 47 RX2 yX2_fits wsX2_fits) := goodIn_app (goodIn_of _ (by decide +kernel)) ggX2_fillBatch_X2_fits
set_option maxRecDepth 20000 in
theorem ggX2_fillBatch_X4_write : GoodIn wsX2_fillBatch wsX4_write := goodIn_r _ [20, 16, 28] (by decide +kernel) (by decide +kernel)
set_option maxRecDepth 20000 in
theorem gX2_fillBatch_X4_write : GoodIn wsX2_fillBatch (wsV RX2 39 RX4 yX4_write wsX4_write) := goodIn_app (goodIn_of _ (by decide +kernel)) ggX2_fillBatch_X4_write
theorem dX2_fillBatch_0 : decode cX2_fillBatch 0 = .ok (.iconst 0, 1) := by decide +kernel
theorem dX2_fillBatch_1 : decode cX2_fillBatch 1 = .ok (.istore 5, 2) := by decide +kernel
theorem dX2_fillBatch_3 : decode cX2_fillBatch 3 = .ok (.iconst 0, 1) := by decide +kernel
theorem dX2_fillBatch_4 : decode cX2_fillBatch 4 = .ok (.istore 6, 2) := by decide +kernel
theorem dX2_fillBatch_6 : decode cX2_fillBatch 6 = .ok (.iload 6, 2) := by decide +kernel
theorem dX2_fillBatch_8 : decode cX2_fillBatch 8 = .ok (.aload_n 0, 1) := by decide +kernel
theorem dX2_fillBatch_9 : decode cX2_fillBatch 9 = .ok (.getfield 9, 3) := by decide +kernel
theorem dX2_fillBatch_12 : decode cX2_fillBatch 12 = .ok (.if_icmp .ge 51, 3) := by decide +kernel
theorem dX2_fillBatch_15 : decode cX2_fillBatch 15 = .ok (.iload 5, 2) := by decide +kernel
theorem dX2_fillBatch_17 : decode cX2_fillBatch 17 = .ok (.iload 4, 2) := by decide +kernel
theorem dX2_fillBatch_19 : decode cX2_fillBatch 19 = .ok (.if_icmp .ge 44, 3) := by decide +kernel
theorem dX2_fillBatch_22 : decode cX2_fillBatch 22 = .ok (.aload_n 0, 1) := by decide +kernel
theorem dX2_fillBatch_23 : decode cX2_fillBatch 23 = .ok (.iload 6, 2) := by decide +kernel
theorem dX2_fillBatch_25 : decode cX2_fillBatch 25 = .ok (.iload_n 3, 1) := by decide +kernel
theorem dX2_fillBatch_26 : decode cX2_fillBatch 26 = .ok (.iload_n 2, 1) := by decide +kernel
theorem dX2_fillBatch_27 : decode cX2_fillBatch 27 = .ok (.iconst 1, 1) := by decide +kernel
theorem dX2_fillBatch_28 : decode cX2_fillBatch 28 = .ok (.invokevirtual 47, 3) := by decide +kernel
theorem dX2_fillBatch_31 : decode cX2_fillBatch 31 = .ok (.ifCond .eq 26, 3) := by decide +kernel
theorem dX2_fillBatch_34 : decode cX2_fillBatch 34 = .ok (.aload_n 0, 1) := by decide +kernel
theorem dX2_fillBatch_35 : decode cX2_fillBatch 35 = .ok (.getfield 30, 3) := by decide +kernel
theorem dX2_fillBatch_38 : decode cX2_fillBatch 38 = .ok (.iload 6, 2) := by decide +kernel
theorem dX2_fillBatch_40 : decode cX2_fillBatch 40 = .ok (.iconst 2, 1) := by decide +kernel
theorem dX2_fillBatch_41 : decode cX2_fillBatch 41 = .ok (.invokevirtual 39, 3) := by decide +kernel
theorem dX2_fillBatch_44 : decode cX2_fillBatch 44 = .ok (.aload_n 0, 1) := by decide +kernel
theorem dX2_fillBatch_45 : decode cX2_fillBatch 45 = .ok (.getfield 36, 3) := by decide +kernel
theorem dX2_fillBatch_48 : decode cX2_fillBatch 48 = .ok (.iload 6, 2) := by decide +kernel
theorem dX2_fillBatch_50 : decode cX2_fillBatch 50 = .ok (.iload_n 1, 1) := by decide +kernel
theorem dX2_fillBatch_51 : decode cX2_fillBatch 51 = .ok (.invokevirtual 39, 3) := by decide +kernel
theorem dX2_fillBatch_54 : decode cX2_fillBatch 54 = .ok (.iinc 5 1, 3) := by decide +kernel
theorem dX2_fillBatch_57 : decode cX2_fillBatch 57 = .ok (.iinc 6 1, 3) := by decide +kernel
theorem dX2_fillBatch_60 : decode cX2_fillBatch 60 = .ok (.goto (-54), 3) := by decide +kernel
theorem dX2_fillBatch_63 : decode cX2_fillBatch 63 = .ok (.iload 5, 2) := by decide +kernel
theorem dX2_fillBatch_65 : decode cX2_fillBatch 65 = .ok (.ireturn, 1) := by decide +kernel
set_option maxRecDepth 20000 in
theorem ggX2_pieceOfBatch_X4_read : GoodIn wsX2_pieceOfBatch wsX4_read := goodIn_r _ [7, 8, 16] (by decide +kernel) (by decide +kernel)
set_option maxRecDepth 20000 in
theorem gX2_pieceOfBatch_X4_read : GoodIn wsX2_pieceOfBatch (wsV RX2 43 RX4 yX4_read wsX4_read) := goodIn_app (goodIn_of _ (by decide +kernel)) ggX2_pieceOfBatch_X4_read
theorem dX2_pieceOfBatch_0 : decode cX2_pieceOfBatch 0 = .ok (.iconst 0, 1) := by decide +kernel
theorem dX2_pieceOfBatch_1 : decode cX2_pieceOfBatch 1 = .ok (.istore_n 3, 1) := by decide +kernel
theorem dX2_pieceOfBatch_2 : decode cX2_pieceOfBatch 2 = .ok (.iconst 0, 1) := by decide +kernel
theorem dX2_pieceOfBatch_3 : decode cX2_pieceOfBatch 3 = .ok (.istore 4, 2) := by decide +kernel
theorem dX2_pieceOfBatch_5 : decode cX2_pieceOfBatch 5 = .ok (.iload 4, 2) := by decide +kernel
theorem dX2_pieceOfBatch_7 : decode cX2_pieceOfBatch 7 = .ok (.aload_n 0, 1) := by decide +kernel
theorem dX2_pieceOfBatch_8 : decode cX2_pieceOfBatch 8 = .ok (.getfield 9, 3) := by decide +kernel
theorem dX2_pieceOfBatch_11 : decode cX2_pieceOfBatch 11 = .ok (.if_icmp .ge 33, 3) := by decide +kernel
theorem dX2_pieceOfBatch_14 : decode cX2_pieceOfBatch 14 = .ok (.aload_n 0, 1) := by decide +kernel
theorem dX2_pieceOfBatch_15 : decode cX2_pieceOfBatch 15 = .ok (.getfield 36, 3) := by decide +kernel
theorem dX2_pieceOfBatch_18 : decode cX2_pieceOfBatch 18 = .ok (.iload 4, 2) := by decide +kernel
theorem dX2_pieceOfBatch_20 : decode cX2_pieceOfBatch 20 = .ok (.invokevirtual 43, 3) := by decide +kernel
theorem dX2_pieceOfBatch_23 : decode cX2_pieceOfBatch 23 = .ok (.iload_n 1, 1) := by decide +kernel
theorem dX2_pieceOfBatch_24 : decode cX2_pieceOfBatch 24 = .ok (.if_icmp .ne 14, 3) := by decide +kernel
theorem dX2_pieceOfBatch_27 : decode cX2_pieceOfBatch 27 = .ok (.iload_n 3, 1) := by decide +kernel
theorem dX2_pieceOfBatch_28 : decode cX2_pieceOfBatch 28 = .ok (.iload_n 2, 1) := by decide +kernel
theorem dX2_pieceOfBatch_29 : decode cX2_pieceOfBatch 29 = .ok (.if_icmp .ne 6, 3) := by decide +kernel
theorem dX2_pieceOfBatch_32 : decode cX2_pieceOfBatch 32 = .ok (.iload 4, 2) := by decide +kernel
theorem dX2_pieceOfBatch_34 : decode cX2_pieceOfBatch 34 = .ok (.ireturn, 1) := by decide +kernel
theorem dX2_pieceOfBatch_35 : decode cX2_pieceOfBatch 35 = .ok (.iinc 3 1, 3) := by decide +kernel
theorem dX2_pieceOfBatch_38 : decode cX2_pieceOfBatch 38 = .ok (.iinc 4 1, 3) := by decide +kernel
theorem dX2_pieceOfBatch_41 : decode cX2_pieceOfBatch 41 = .ok (.goto (-36), 3) := by decide +kernel
theorem dX2_pieceOfBatch_44 : decode cX2_pieceOfBatch 44 = .ok (.iconst (-1), 1) := by decide +kernel
theorem dX2_pieceOfBatch_45 : decode cX2_pieceOfBatch 45 = .ok (.ireturn, 1) := by decide +kernel
set_option maxRecDepth 20000 in
theorem ggX2_emptyBatch_X4_read : GoodIn wsX2_emptyBatch wsX4_read := goodIn_r _ [8, 9, 21] (by decide +kernel) (by decide +kernel)
set_option maxRecDepth 20000 in
theorem gX2_emptyBatch_X4_read : GoodIn wsX2_emptyBatch (wsV RX2 43 RX4 yX4_read wsX4_read) := goodIn_app (goodIn_of _ (by decide +kernel)) ggX2_emptyBatch_X4_read
set_option maxRecDepth 20000 in
theorem ggX2_emptyBatch_X4_write : GoodIn wsX2_emptyBatch wsX4_write := goodIn_r _ [13, 9, 21] (by decide +kernel) (by decide +kernel)
set_option maxRecDepth 20000 in
theorem gX2_emptyBatch_X4_write : GoodIn wsX2_emptyBatch (wsV RX2 39 RX4 yX4_write wsX4_write) := goodIn_app (goodIn_of _ (by decide +kernel)) ggX2_emptyBatch_X4_write
theorem dX2_emptyBatch_0 : decode cX2_emptyBatch 0 = .ok (.iconst 0, 1) := by decide +kernel
theorem dX2_emptyBatch_1 : decode cX2_emptyBatch 1 = .ok (.istore_n 2, 1) := by decide +kernel
theorem dX2_emptyBatch_2 : decode cX2_emptyBatch 2 = .ok (.iload_n 2, 1) := by decide +kernel
theorem dX2_emptyBatch_3 : decode cX2_emptyBatch 3 = .ok (.aload_n 0, 1) := by decide +kernel
theorem dX2_emptyBatch_4 : decode cX2_emptyBatch 4 = .ok (.getfield 9, 3) := by decide +kernel
theorem dX2_emptyBatch_7 : decode cX2_emptyBatch 7 = .ok (.if_icmp .ge 60, 3) := by decide +kernel
theorem dX2_emptyBatch_10 : decode cX2_emptyBatch 10 = .ok (.aload_n 0, 1) := by decide +kernel
theorem dX2_emptyBatch_11 : decode cX2_emptyBatch 11 = .ok (.getfield 36, 3) := by decide +kernel
theorem dX2_emptyBatch_14 : decode cX2_emptyBatch 14 = .ok (.iload_n 2, 1) := by decide +kernel
theorem dX2_emptyBatch_15 : decode cX2_emptyBatch 15 = .ok (.invokevirtual 43, 3) := by decide +kernel
theorem dX2_emptyBatch_18 : decode cX2_emptyBatch 18 = .ok (.istore_n 3, 1) := by decide +kernel
theorem dX2_emptyBatch_19 : decode cX2_emptyBatch 19 = .ok (.iload_n 3, 1) := by decide +kernel
theorem dX2_emptyBatch_20 : decode cX2_emptyBatch 20 = .ok (.iload_n 1, 1) := by decide +kernel
theorem dX2_emptyBatch_21 : decode cX2_emptyBatch 21 = .ok (.if_icmp .ne 24, 3) := by decide +kernel
theorem dX2_emptyBatch_24 : decode cX2_emptyBatch 24 = .ok (.aload_n 0, 1) := by decide +kernel
theorem dX2_emptyBatch_25 : decode cX2_emptyBatch 25 = .ok (.getfield 30, 3) := by decide +kernel
theorem dX2_emptyBatch_28 : decode cX2_emptyBatch 28 = .ok (.iload_n 2, 1) := by decide +kernel
theorem dX2_emptyBatch_29 : decode cX2_emptyBatch 29 = .ok (.iconst 1, 1) := by decide +kernel
theorem dX2_emptyBatch_30 : decode cX2_emptyBatch 30 = .ok (.invokevirtual 39, 3) := by decide +kernel
theorem dX2_emptyBatch_33 : decode cX2_emptyBatch 33 = .ok (.aload_n 0, 1) := by decide +kernel
theorem dX2_emptyBatch_34 : decode cX2_emptyBatch 34 = .ok (.getfield 36, 3) := by decide +kernel
theorem dX2_emptyBatch_37 : decode cX2_emptyBatch 37 = .ok (.iload_n 2, 1) := by decide +kernel
theorem dX2_emptyBatch_38 : decode cX2_emptyBatch 38 = .ok (.iconst (-1), 1) := by decide +kernel
theorem dX2_emptyBatch_39 : decode cX2_emptyBatch 39 = .ok (.invokevirtual 39, 3) := by decide +kernel
theorem dX2_emptyBatch_42 : decode cX2_emptyBatch 42 = .ok (.goto 19, 3) := by decide +kernel
theorem dX2_emptyBatch_45 : decode cX2_emptyBatch 45 = .ok (.iload_n 3, 1) := by decide +kernel
theorem dX2_emptyBatch_46 : decode cX2_emptyBatch 46 = .ok (.iload_n 1, 1) := by decide +kernel
theorem dX2_emptyBatch_47 : decode cX2_emptyBatch 47 = .ok (.if_icmp .le 14, 3) := by decide +kernel
theorem dX2_emptyBatch_50 : decode cX2_emptyBatch 50 = .ok (.aload_n 0, 1) := by decide +kernel
theorem dX2_emptyBatch_51 : decode cX2_emptyBatch 51 = .ok (.getfield 36, 3) := by decide +kernel
theorem dX2_emptyBatch_54 : decode cX2_emptyBatch 54 = .ok (.iload_n 2, 1) := by decide +kernel
theorem dX2_emptyBatch_55 : decode cX2_emptyBatch 55 = .ok (.iload_n 3, 1) := by decide +kernel
theorem dX2_emptyBatch_56 : decode cX2_emptyBatch 56 = .ok (.iconst 1, 1) := by decide +kernel
theorem dX2_emptyBatch_57 : decode cX2_emptyBatch 57 = .ok (.isub, 1) := by decide +kernel
theorem dX2_emptyBatch_58 : decode cX2_emptyBatch 58 = .ok (.invokevirtual 39, 3) := by decide +kernel
theorem dX2_emptyBatch_61 : decode cX2_emptyBatch 61 = .ok (.iinc 2 1, 3) := by decide +kernel
theorem dX2_emptyBatch_64 : decode cX2_emptyBatch 64 = .ok (.goto (-62), 3) := by decide +kernel
theorem dX2_emptyBatch_67 : decode cX2_emptyBatch 67 = .ok (.return_, 1) := by decide +kernel
set_option maxRecDepth 20000 in
theorem ggX2_cleanBatches_X4_read : GoodIn wsX2_cleanBatches wsX4_read := goodIn_r _ [9, 10, 22] (by decide +kernel) (by decide +kernel)
set_option maxRecDepth 20000 in
theorem gX2_cleanBatches_X4_read : GoodIn wsX2_cleanBatches (wsV RX2 43 RX4 yX4_read wsX4_read) := goodIn_app (goodIn_of _ (by decide +kernel)) ggX2_cleanBatches_X4_read
set_option maxRecDepth 20000 in
theorem ggX2_cleanBatches_X4_write : GoodIn wsX2_cleanBatches wsX4_write := goodIn_r _ [14, 10, 22] (by decide +kernel) (by decide +kernel)
set_option maxRecDepth 20000 in
theorem gX2_cleanBatches_X4_write : GoodIn wsX2_cleanBatches (wsV RX2 39 RX4 yX4_write wsX4_write) := goodIn_app (goodIn_of _ (by decide +kernel)) ggX2_cleanBatches_X4_write
theorem dX2_cleanBatches_0 : decode cX2_cleanBatches 0 = .ok (.iconst 0, 1) := by decide +kernel
theorem dX2_cleanBatches_1 : decode cX2_cleanBatches 1 = .ok (.istore_n 1, 1) := by decide +kernel
theorem dX2_cleanBatches_2 : decode cX2_cleanBatches 2 = .ok (.iload_n 1, 1) := by decide +kernel
theorem dX2_cleanBatches_3 : decode cX2_cleanBatches 3 = .ok (.aload_n 0, 1) := by decide +kernel
theorem dX2_cleanBatches_4 : decode cX2_cleanBatches 4 = .ok (.getfield 9, 3) := by decide +kernel
theorem dX2_cleanBatches_7 : decode cX2_cleanBatches 7 = .ok (.if_icmp .ge 57, 3) := by decide +kernel
theorem dX2_cleanBatches_10 : decode cX2_cleanBatches 10 = .ok (.aload_n 0, 1) := by decide +kernel
theorem dX2_cleanBatches_11 : decode cX2_cleanBatches 11 = .ok (.getfield 30, 3) := by decide +kernel
theorem dX2_cleanBatches_14 : decode cX2_cleanBatches 14 = .ok (.iload_n 1, 1) := by decide +kernel
theorem dX2_cleanBatches_15 : decode cX2_cleanBatches 15 = .ok (.invokevirtual 43, 3) := by decide +kernel
theorem dX2_cleanBatches_18 : decode cX2_cleanBatches 18 = .ok (.iconst 2, 1) := by decide +kernel
theorem dX2_cleanBatches_19 : decode cX2_cleanBatches 19 = .ok (.if_icmp .ne 39, 3) := by decide +kernel
theorem dX2_cleanBatches_22 : decode cX2_cleanBatches 22 = .ok (.aload_n 0, 1) := by decide +kernel
theorem dX2_cleanBatches_23 : decode cX2_cleanBatches 23 = .ok (.getfield 30, 3) := by decide +kernel
theorem dX2_cleanBatches_26 : decode cX2_cleanBatches 26 = .ok (.iload_n 1, 1) := by decide +kernel
theorem dX2_cleanBatches_27 : decode cX2_cleanBatches 27 = .ok (.iconst 3, 1) := by decide +kernel
theorem dX2_cleanBatches_28 : decode cX2_cleanBatches 28 = .ok (.invokevirtual 39, 3) := by decide +kernel
theorem dX2_cleanBatches_31 : decode cX2_cleanBatches 31 = .ok (.aload_n 0, 1) := by decide +kernel
theorem dX2_cleanBatches_32 : decode cX2_cleanBatches 32 = .ok (.getfield 36, 3) := by decide +kernel
theorem dX2_cleanBatches_35 : decode cX2_cleanBatches 35 = .ok (.iload_n 1, 1) := by decide +kernel
theorem dX2_cleanBatches_36 : decode cX2_cleanBatches 36 = .ok (.iconst (-1), 1) := by decide +kernel
theorem dX2_cleanBatches_37 : decode cX2_cleanBatches 37 = .ok (.invokevirtual 39, 3) := by decide +kernel
theorem dX2_cleanBatches_40 : decode cX2_cleanBatches 40 = .ok (.aload_n 0, 1) := by decide +kernel
theorem dX2_cleanBatches_41 : decode cX2_cleanBatches 41 = .ok (.getfield 33, 3) := by decide +kernel
theorem dX2_cleanBatches_44 : decode cX2_cleanBatches 44 = .ok (.iload_n 1, 1) := by decide +kernel
theorem dX2_cleanBatches_45 : decode cX2_cleanBatches 45 = .ok (.aload_n 0, 1) := by decide +kernel
theorem dX2_cleanBatches_46 : decode cX2_cleanBatches 46 = .ok (.getfield 33, 3) := by decide +kernel
theorem dX2_cleanBatches_49 : decode cX2_cleanBatches 49 = .ok (.iload_n 1, 1) := by decide +kernel
theorem dX2_cleanBatches_50 : decode cX2_cleanBatches 50 = .ok (.invokevirtual 43, 3) := by decide +kernel
theorem dX2_cleanBatches_53 : decode cX2_cleanBatches 53 = .ok (.iconst 1, 1) := by decide +kernel
theorem dX2_cleanBatches_54 : decode cX2_cleanBatches 54 = .ok (.iadd, 1) := by decide +kernel
theorem dX2_cleanBatches_55 : decode cX2_cleanBatches 55 = .ok (.invokevirtual 39, 3) := by decide +kernel
theorem dX2_cleanBatches_58 : decode cX2_cleanBatches 58 = .ok (.iinc 1 1, 3) := by decide +kernel
theorem dX2_cleanBatches_61 : decode cX2_cleanBatches 61 = .ok (.goto (-59), 3) := by decide +kernel
theorem dX2_cleanBatches_64 : decode cX2_cleanBatches 64 = .ok (.return_, 1) := by decide +kernel
set_option maxRecDepth 20000 in
theorem ggX2_sendOut_X2_fits : GoodIn wsX2_sendOut wsX2_fits := goodIn_r _ [7, 2, 8, 9, 10, 11, 12, 13, 14, 15, 20, 21, 22, 23, 24, 25, 26, 27] (by decide +kernel) (by decide +kernel)
set_option maxRecDepth 20000 in
theorem gX2_sendOut_X2_fits : GoodIn wsX2_sendOut (wsV RX2 47 RX2 yX2_fits wsX2_fits) := goodIn_app (goodIn_of _ (by decide +kernel)) ggX2_sendOut_X2_fits
set_option maxRecDepth 20000 in
theorem ggX2_sendOut_X4_write : GoodIn wsX2_sendOut wsX4_write := goodIn_r _ [19, 15, 27] (by decide +kernel) (by decide +kernel)
set_option maxRecDepth 20000 in
theorem gX2_sendOut_X4_write : GoodIn wsX2_sendOut (wsV RX2 39 RX4 yX4_write wsX4_write) := goodIn_app (goodIn_of _ (by decide +kernel)) ggX2_sendOut_X4_write
theorem dX2_sendOut_0 : decode cX2_sendOut 0 = .ok (.iconst 0, 1) := by decide +kernel
theorem dX2_sendOut_1 : decode cX2_sendOut 1 = .ok (.istore 4, 2) := by decide +kernel
theorem dX2_sendOut_3 : decode cX2_sendOut 3 = .ok (.iconst 0, 1) := by decide +kernel
theorem dX2_sendOut_4 : decode cX2_sendOut 4 = .ok (.istore 5, 2) := by decide +kernel
theorem dX2_sendOut_6 : decode cX2_sendOut 6 = .ok (.iload 5, 2) := by decide +kernel
theorem dX2_sendOut_8 : decode cX2_sendOut 8 = .ok (.aload_n 0, 1) := by decide +kernel
theorem dX2_sendOut_9 : decode cX2_sendOut 9 = .ok (.getfield 9, 3) := by decide +kernel
theorem dX2_sendOut_12 : decode cX2_sendOut 12 = .ok (.if_icmp .ge 40, 3) := by decide +kernel
theorem dX2_sendOut_15 : decode cX2_sendOut 15 = .ok (.iload 4, 2) := by decide +kernel
theorem dX2_sendOut_17 : decode cX2_sendOut 17 = .ok (.iload_n 3, 1) := by decide +kernel
theorem dX2_sendOut_18 : decode cX2_sendOut 18 = .ok (.if_icmp .ge 34, 3) := by decide +kernel
theorem dX2_sendOut_21 : decode cX2_sendOut 21 = .ok (.aload_n 0, 1) := by decide +kernel
theorem dX2_sendOut_22 : decode cX2_sendOut 22 = .ok (.iload 5, 2) := by decide +kernel
theorem dX2_sendOut_24 : decode cX2_sendOut 24 = .ok (.iload_n 1, 1) := by decide +kernel
theorem dX2_sendOut_25 : decode cX2_sendOut 25 = .ok (.iload_n 2, 1) := by decide +kernel
theorem dX2_sendOut_26 : decode cX2_sendOut 26 = .ok (.iconst 3, 1) := by decide +kernel
theorem dX2_sendOut_27 : decode cX2_sendOut 27 = .ok (.invokevirtual 47, 3) := by decide +kernel
theorem dX2_sendOut_30 : decode cX2_sendOut 30 = .ok (.ifCond .eq 16, 3) := by decide +kernel
theorem dX2_sendOut_33 : decode cX2_sendOut 33 = .ok (.aload_n 0, 1) := by decide +kernel
theorem dX2_sendOut_34 : decode cX2_sendOut 34 = .ok (.getfield 30, 3) := by decide +kernel
theorem dX2_sendOut_37 : decode cX2_sendOut 37 = .ok (.iload 5, 2) := by decide +kernel
theorem dX2_sendOut_39 : decode cX2_sendOut 39 = .ok (.iconst 0, 1) := by decide +kernel
theorem dX2_sendOut_40 : decode cX2_sendOut 40 = .ok (.invokevirtual 39, 3) := by decide +kernel
theorem dX2_sendOut_43 : decode cX2_sendOut 43 = .ok (.iinc 4 1, 3) := by decide +kernel
theorem dX2_sendOut_46 : decode cX2_sendOut 46 = .ok (.iinc 5 1, 3) := by decide +kernel
theorem dX2_sendOut_49 : decode cX2_sendOut 49 = .ok (.goto (-43), 3) := by decide +kernel
theorem dX2_sendOut_52 : decode cX2_sendOut 52 = .ok (.iload 4, 2) := by decide +kernel
theorem dX2_sendOut_54 : decode cX2_sendOut 54 = .ok (.ireturn, 1) := by decide +kernel
set_option maxRecDepth 20000 in
theorem ggX3_init_X4_init : GoodIn wsX3_init wsX4_init := goodIn_r _ [12, 13, 2, 3, 14, 15, 16] (by decide +kernel) (by decide +kernel)
set_option maxRecDepth 20000 in
theorem gX3_init_X4_init : GoodIn wsX3_init (wsX4_init) := ggX3_init_X4_init
theorem dX3_init_0 : decode cX3_init 0 = .ok (.aload_n 0, 1) := by decide +kernel
theorem dX3_init_1 : decode cX3_init 1 = .ok (.invokespecial 3, 3) := by decide +kernel
theorem dX3_init_4 : decode cX3_init 4 = .ok (.aload_n 0, 1) := by decide +kernel
theorem dX3_init_5 : decode cX3_init 5 = .ok (.new 9, 3) := by decide +kernel
theorem dX3_init_8 : decode cX3_init 8 = .ok (.dup, 1) := by decide +kernel
theorem dX3_init_9 : decode cX3_init 9 = .ok (.bipush 64, 2) := by decide +kernel
theorem dX3_init_11 : decode cX3_init 11 = .ok (.invokespecial 11, 3) := by decide +kernel
theorem dX3_init_14 : decode cX3_init 14 = .ok (.putfield 14, 3) := by decide +kernel
theorem dX3_init_17 : decode cX3_init 17 = .ok (.aload_n 0, 1) := by decide +kernel
theorem dX3_init_18 : decode cX3_init 18 = .ok (.new 9, 3) := by decide +kernel
theorem dX3_init_21 : decode cX3_init 21 = .ok (.dup, 1) := by decide +kernel
theorem dX3_init_22 : decode cX3_init 22 = .ok (.sipush 2048, 3) := by decide +kernel
theorem dX3_init_25 : decode cX3_init 25 = .ok (.invokespecial 11, 3) := by decide +kernel
theorem dX3_init_28 : decode cX3_init 28 = .ok (.putfield 20, 3) := by decide +kernel
theorem dX3_init_31 : decode cX3_init 31 = .ok (.aload_n 0, 1) := by decide +kernel
theorem dX3_init_32 : decode cX3_init 32 = .ok (.aload_n 1, 1) := by decide +kernel
theorem dX3_init_33 : decode cX3_init 33 = .ok (.putfield 23, 3) := by decide +kernel
theorem dX3_init_36 : decode cX3_init 36 = .ok (.return_, 1) := by decide +kernel
set_option maxRecDepth 20000 in
theorem ggX3_orderBest_X3_fillGaps : GoodIn wsX3_orderBest wsX3_fillGaps := goodIn_r _ [6, 1, 7, 8, 9, 10, 11, 12, 13, 14, 15, 16, 17, 18, 19, 20, 21, 22, 23, 24, 25, 26, 27, 28, 29, 30, 31, 32, 33, 34, 35, 36, 37, 38, 39, 40, 55, 56, 57, 58, 59, 60, 61, 62, 63, 64, 65, 66, 67, 68, 69] (by decide +kernel) (by decide +kernel)
set_option maxRecDepth 20000 in
theorem gX3_orderBest_X3_fillGaps : GoodIn wsX3_orderBest (wsV RX3 27 RX3 yX3_fillGaps wsX3_fillGaps) := goodIn_app (goodIn_of _ (by decide +kernel)) ggX3_orderBest_X3_fillGaps
set_option maxRecDepth 20000 in
theorem ggX3_orderBest_X3_fillFewest : GoodIn wsX3_orderBest wsX3_fillFewest := goodIn_r _ [44, 1, 45, 46, 47, 48, 5, 49, 50, 51, 52, 53, 7, 54, 16, 17, 18, 19, 20, 37, 38, 39, 40, 55, 56, 57, 58, 59, 60, 61, 62, 63] (by decide +kernel) (by decide +kernel)
set_option maxRecDepth 20000 in
theorem gX3_orderBest_X3_fillFewest : GoodIn wsX3_orderBest (wsV RX3 30 RX3 yX3_fillFewest wsX3_fillFewest) := goodIn_app (goodIn_of _ (by decide +kernel)) ggX3_orderBest_X3_fillFewest
set_option maxRecDepth 20000 in
theorem ggX3_orderBest_X3_bestBehind : GoodIn wsX3_orderBest wsX3_bestBehind := goodIn_r _ [49, 1, 50, 51, 52, 5, 53, 7, 45, 54, 16, 17, 18, 19, 20, 55, 56, 57, 58, 59, 60, 61, 62, 63] (by decide +kernel) (by decide +kernel)
set_option maxRecDepth 20000 in
theorem gX3_orderBest_X3_bestBehind : GoodIn wsX3_orderBest (wsV RX3 39 RX3 yX3_bestBehind wsX3_bestBehind) := goodIn_app (goodIn_of _ (by decide +kernel)) ggX3_orderBest_X3_bestBehind
set_option maxRecDepth 20000 in
theorem ggX3_orderBest_X4_write : GoodIn wsX3_orderBest wsX4_write := goodIn_r _ [40, 20, 63] (by decide +kernel) (by decide +kernel)
set_option maxRecDepth 20000 in
theorem gX3_orderBest_X4_write : GoodIn wsX3_orderBest (wsV RX3 46 RX4 yX4_write wsX4_write) := goodIn_app (goodIn_of _ (by decide +kernel)) ggX3_orderBest_X4_write
theorem dX3_orderBest_0 : decode cX3_orderBest 0 = .ok (.aload_n 0, 1) := by decide +kernel
theorem dX3_orderBest_1 : decode cX3_orderBest 1 = .ok (.invokevirtual 27, 3) := by decide +kernel
theorem dX3_orderBest_4 : decode cX3_orderBest 4 = .ok (.aload_n 0, 1) := by decide +kernel
theorem dX3_orderBest_5 : decode cX3_orderBest 5 = .ok (.invokevirtual 30, 3) := by decide +kernel
theorem dX3_orderBest_8 : decode cX3_orderBest 8 = .ok (.iconst 0, 1) := by decide +kernel
theorem dX3_orderBest_9 : decode cX3_orderBest 9 = .ok (.istore_n 1, 1) := by decide +kernel
theorem dX3_orderBest_10 : decode cX3_orderBest 10 = .ok (.iconst (-1), 1) := by decide +kernel
theorem dX3_orderBest_11 : decode cX3_orderBest 11 = .ok (.istore_n 2, 1) := by decide +kernel
theorem dX3_orderBest_12 : decode cX3_orderBest 12 = .ok (.iconst 0, 1) := by decide +kernel
theorem dX3_orderBest_13 : decode cX3_orderBest 13 = .ok (.istore_n 3, 1) := by decide +kernel
theorem dX3_orderBest_14 : decode cX3_orderBest 14 = .ok (.iload_n 3, 1) := by decide +kernel
theorem dX3_orderBest_15 : decode cX3_orderBest 15 = .ok (.aload_n 0, 1) := by decide +kernel
theorem dX3_orderBest_16 : decode cX3_orderBest 16 = .ok (.getfield 23, 3) := by decide +kernel
theorem dX3_orderBest_19 : decode cX3_orderBest 19 = .ok (.getfield 33, 3) := by decide +kernel
theorem dX3_orderBest_22 : decode cX3_orderBest 22 = .ok (.if_icmp .ge 34, 3) := by decide +kernel
theorem dX3_orderBest_25 : decode cX3_orderBest 25 = .ok (.aload_n 0, 1) := by decide +kernel
theorem dX3_orderBest_26 : decode cX3_orderBest 26 = .ok (.iload_n 1, 1) := by decide +kernel
theorem dX3_orderBest_27 : decode cX3_orderBest 27 = .ok (.iload_n 2, 1) := by decide +kernel
theorem dX3_orderBest_28 : decode cX3_orderBest 28 = .ok (.invokevirtual 39, 3) := by decide +kernel
theorem dX3_orderBest_31 : decode cX3_orderBest 31 = .ok (.istore_n 2, 1) := by decide +kernel
theorem dX3_orderBest_32 : decode cX3_orderBest 32 = .ok (.iload_n 1, 1) := by decide +kernel
theorem dX3_orderBest_33 : decode cX3_orderBest 33 = .ok (.iconst 1, 1) := by decide +kernel
theorem dX3_orderBest_34 : decode cX3_orderBest 34 = .ok (.iload_n 2, 1) := by decide +kernel
theorem dX3_orderBest_35 : decode cX3_orderBest 35 = .ok (.ishl, 1) := by decide +kernel
theorem dX3_orderBest_36 : decode cX3_orderBest 36 = .ok (.ior, 1) := by decide +kernel
theorem dX3_orderBest_37 : decode cX3_orderBest 37 = .ok (.istore_n 1, 1) := by decide +kernel
theorem dX3_orderBest_38 : decode cX3_orderBest 38 = .ok (.aload_n 0, 1) := by decide +kernel
theorem dX3_orderBest_39 : decode cX3_orderBest 39 = .ok (.getfield 23, 3) := by decide +kernel
theorem dX3_orderBest_42 : decode cX3_orderBest 42 = .ok (.getfield 43, 3) := by decide +kernel
theorem dX3_orderBest_45 : decode cX3_orderBest 45 = .ok (.iload_n 3, 1) := by decide +kernel
theorem dX3_orderBest_46 : decode cX3_orderBest 46 = .ok (.iload_n 2, 1) := by decide +kernel
theorem dX3_orderBest_47 : decode cX3_orderBest 47 = .ok (.invokevirtual 46, 3) := by decide +kernel
theorem dX3_orderBest_50 : decode cX3_orderBest 50 = .ok (.iinc 3 1, 3) := by decide +kernel
theorem dX3_orderBest_53 : decode cX3_orderBest 53 = .ok (.goto (-39), 3) := by decide +kernel
theorem dX3_orderBest_56 : decode cX3_orderBest 56 = .ok (.return_, 1) := by decide +kernel
set_option maxRecDepth 20000 in
theorem ggX3_fillGaps_X6_gapOf : GoodIn wsX3_fillGaps wsX6_gapOf := goodIn_r _ [7, 8, 9, 10, 11, 12, 13, 14, 15, 16, 17, 18, 19, 20, 21, 22, 23, 24, 25, 26, 27, 28, 29, 30, 31, 39, 40, 41, 42, 43, 44, 45, 46, 47, 48, 49, 50] (by decide +kernel) (by decide +kernel)
set_option maxRecDepth 20000 in
theorem gX3_fillGaps_X6_gapOf : GoodIn wsX3_fillGaps (wsV RX3 50 RX6 yX6_gapOf wsX6_gapOf) := goodIn_app (goodIn_of _ (by decide +kernel)) ggX3_fillGaps_X6_gapOf
set_option maxRecDepth 20000 in
theorem ggX3_fillGaps_X4_write : GoodIn wsX3_fillGaps wsX4_write := goodIn_r _ [35, 15, 44] (by decide +kernel) (by decide +kernel)
set_option maxRecDepth 20000 in
theorem gX3_fillGaps_X4_write : GoodIn wsX3_fillGaps (wsV RX3 46 RX4 yX4_write wsX4_write) := goodIn_app (goodIn_of _ (by decide +kernel)) ggX3_fillGaps_X4_write
theorem dX3_fillGaps_0 : decode cX3_fillGaps 0 = .ok (.iconst 0, 1) := by decide +kernel
theorem dX3_fillGaps_1 : decode cX3_fillGaps 1 = .ok (.istore_n 1, 1) := by decide +kernel
theorem dX3_fillGaps_2 : decode cX3_fillGaps 2 = .ok (.iload_n 1, 1) := by decide +kernel
theorem dX3_fillGaps_3 : decode cX3_fillGaps 3 = .ok (.aload_n 0, 1) := by decide +kernel
theorem dX3_fillGaps_4 : decode cX3_fillGaps 4 = .ok (.getfield 23, 3) := by decide +kernel
theorem dX3_fillGaps_7 : decode cX3_fillGaps 7 = .ok (.getfield 33, 3) := by decide +kernel
theorem dX3_fillGaps_10 : decode cX3_fillGaps 10 = .ok (.if_icmp .ge 50, 3) := by decide +kernel
theorem dX3_fillGaps_13 : decode cX3_fillGaps 13 = .ok (.iconst 0, 1) := by decide +kernel
theorem dX3_fillGaps_14 : decode cX3_fillGaps 14 = .ok (.istore_n 2, 1) := by decide +kernel
theorem dX3_fillGaps_15 : decode cX3_fillGaps 15 = .ok (.iload_n 2, 1) := by decide +kernel
theorem dX3_fillGaps_16 : decode cX3_fillGaps 16 = .ok (.aload_n 0, 1) := by decide +kernel
theorem dX3_fillGaps_17 : decode cX3_fillGaps 17 = .ok (.getfield 23, 3) := by decide +kernel
theorem dX3_fillGaps_20 : decode cX3_fillGaps 20 = .ok (.getfield 33, 3) := by decide +kernel
theorem dX3_fillGaps_23 : decode cX3_fillGaps 23 = .ok (.if_icmp .ge 31, 3) := by decide +kernel
theorem dX3_fillGaps_26 : decode cX3_fillGaps 26 = .ok (.aload_n 0, 1) := by decide +kernel
theorem dX3_fillGaps_27 : decode cX3_fillGaps 27 = .ok (.getfield 14, 3) := by decide +kernel
theorem dX3_fillGaps_30 : decode cX3_fillGaps 30 = .ok (.iload_n 1, 1) := by decide +kernel
theorem dX3_fillGaps_31 : decode cX3_fillGaps 31 = .ok (.bipush 8, 2) := by decide +kernel
theorem dX3_fillGaps_33 : decode cX3_fillGaps 33 = .ok (.imul, 1) := by decide +kernel
theorem dX3_fillGaps_34 : decode cX3_fillGaps 34 = .ok (.iload_n 2, 1) := by decide +kernel
theorem dX3_fillGaps_35 : decode cX3_fillGaps 35 = .ok (.iadd, 1) := by decide +kernel
theorem dX3_fillGaps_36 : decode cX3_fillGaps 36 = .ok (.aload_n 0, 1) := by decide +kernel
theorem dX3_fillGaps_37 : decode cX3_fillGaps 37 = .ok (.getfield 23, 3) := by decide +kernel
theorem dX3_fillGaps_40 : decode cX3_fillGaps 40 = .ok (.iload_n 1, 1) := by decide +kernel
theorem dX3_fillGaps_41 : decode cX3_fillGaps 41 = .ok (.iload_n 2, 1) := by decide +kernel
theorem dX3_fillGaps_42 : decode cX3_fillGaps 42 = .ok (.invokevirtual 50, 3) := by decide +kernel
theorem dX3_fillGaps_45 : decode cX3_fillGaps 45 = .ok (.invokevirtual 46, 3) := by decide +kernel
theorem dX3_fillGaps_48 : decode cX3_fillGaps 48 = .ok (.iinc 2 1, 3) := by decide +kernel
theorem dX3_fillGaps_51 : decode cX3_fillGaps 51 = .ok (.goto (-36), 3) := by decide +kernel
theorem dX3_fillGaps_54 : decode cX3_fillGaps 54 = .ok (.iinc 1 1, 3) := by decide +kernel
theorem dX3_fillGaps_57 : decode cX3_fillGaps 57 = .ok (.goto (-55), 3) := by decide +kernel
theorem dX3_fillGaps_60 : decode cX3_fillGaps 60 = .ok (.return_, 1) := by decide +kernel
set_option maxRecDepth 20000 in
theorem ggX3_fillFewest_X3_bestBehind : GoodIn wsX3_fillFewest wsX3_bestBehind := goodIn_r _ [7, 1, 8, 9, 10, 6, 11, 12, 2, 13, 14, 15, 16, 17, 18, 23, 24, 25, 26, 27, 28, 29, 30, 31] (by decide +kernel) (by decide +kernel)
set_option maxRecDepth 20000 in
theorem gX3_fillFewest_X3_bestBehind : GoodIn wsX3_fillFewest (wsV RX3 39 RX3 yX3_bestBehind wsX3_bestBehind) := goodIn_app (goodIn_of _ (by decide +kernel)) ggX3_fillFewest_X3_bestBehind
set_option maxRecDepth 20000 in
theorem ggX3_fillFewest_X3_costBehind : GoodIn wsX3_fillFewest wsX3_costBehind := goodIn_r _ [11, 12, 2, 13, 14, 15, 16, 17, 18, 23, 24, 25, 31] (by decide +kernel) (by decide +kernel)
set_option maxRecDepth 20000 in
theorem gX3_fillFewest_X3_costBehind : GoodIn wsX3_fillFewest (wsV RX3 53 RX3 yX3_costBehind wsX3_costBehind) := goodIn_app (goodIn_of _ (by decide +kernel)) ggX3_fillFewest_X3_costBehind
set_option maxRecDepth 20000 in
theorem ggX3_fillFewest_X4_write : GoodIn wsX3_fillFewest wsX4_write := goodIn_r _ [22, 18, 31] (by decide +kernel) (by decide +kernel)
set_option maxRecDepth 20000 in
theorem gX3_fillFewest_X4_write : GoodIn wsX3_fillFewest (wsV RX3 46 RX4 yX4_write wsX4_write) := goodIn_app (goodIn_of _ (by decide +kernel)) ggX3_fillFewest_X4_write
theorem dX3_fillFewest_0 : decode cX3_fillFewest 0 = .ok (.iconst 1, 1) := by decide +kernel
theorem dX3_fillFewest_1 : decode cX3_fillFewest 1 = .ok (.aload_n 0, 1) := by decide +kernel
theorem dX3_fillFewest_2 : decode cX3_fillFewest 2 = .ok (.getfield 23, 3) := by decide +kernel
theorem dX3_fillFewest_5 : decode cX3_fillFewest 5 = .ok (.getfield 33, 3) := by decide +kernel
theorem dX3_fillFewest_8 : decode cX3_fillFewest 8 = .ok (.ishl, 1) := by decide +kernel
theorem dX3_fillFewest_9 : decode cX3_fillFewest 9 = .ok (.iconst 1, 1) := by decide +kernel
theorem dX3_fillFewest_10 : decode cX3_fillFewest 10 = .ok (.isub, 1) := by decide +kernel
theorem dX3_fillFewest_11 : decode cX3_fillFewest 11 = .ok (.istore_n 1, 1) := by decide +kernel
theorem dX3_fillFewest_12 : decode cX3_fillFewest 12 = .ok (.iload_n 1, 1) := by decide +kernel
theorem dX3_fillFewest_13 : decode cX3_fillFewest 13 = .ok (.ifCond .le 77, 3) := by decide +kernel
theorem dX3_fillFewest_16 : decode cX3_fillFewest 16 = .ok (.iconst 0, 1) := by decide +kernel
theorem dX3_fillFewest_17 : decode cX3_fillFewest 17 = .ok (.istore_n 2, 1) := by decide +kernel
theorem dX3_fillFewest_18 : decode cX3_fillFewest 18 = .ok (.iload_n 2, 1) := by decide +kernel
theorem dX3_fillFewest_19 : decode cX3_fillFewest 19 = .ok (.aload_n 0, 1) := by decide +kernel
theorem dX3_fillFewest_20 : decode cX3_fillFewest 20 = .ok (.getfield 23, 3) := by decide +kernel
theorem dX3_fillFewest_23 : decode cX3_fillFewest 23 = .ok (.getfield 33, 3) := by decide +kernel
theorem dX3_fillFewest_26 : decode cX3_fillFewest 26 = .ok (.if_icmp .ge 58, 3) := by decide +kernel
theorem dX3_fillFewest_29 : decode cX3_fillFewest 29 = .ok (.iload_n 1, 1) := by decide +kernel
theorem dX3_fillFewest_30 : decode cX3_fillFewest 30 = .ok (.iload_n 2, 1) := by decide +kernel
theorem dX3_fillFewest_31 : decode cX3_fillFewest 31 = .ok (.ishr, 1) := by decide +kernel
theorem dX3_fillFewest_32 : decode cX3_fillFewest 32 = .ok (.iconst 1, 1) := by decide +kernel
theorem dX3_fillFewest_33 : decode cX3_fillFewest 33 = .ok (.iand, 1) := by decide +kernel
theorem dX3_fillFewest_34 : decode cX3_fillFewest 34 = .ok (.iconst 1, 1) := by decide +kernel
theorem dX3_fillFewest_35 : decode cX3_fillFewest 35 = .ok (.if_icmp .ne 43, 3) := by decide +kernel
theorem dX3_fillFewest_38 : decode cX3_fillFewest 38 = .ok (.aload_n 0, 1) := by decide +kernel
theorem dX3_fillFewest_39 : decode cX3_fillFewest 39 = .ok (.iload_n 1, 1) := by decide +kernel
theorem dX3_fillFewest_40 : decode cX3_fillFewest 40 = .ok (.iload_n 2, 1) := by decide +kernel
theorem dX3_fillFewest_41 : decode cX3_fillFewest 41 = .ok (.invokevirtual 39, 3) := by decide +kernel
theorem dX3_fillFewest_44 : decode cX3_fillFewest 44 = .ok (.istore_n 3, 1) := by decide +kernel
theorem dX3_fillFewest_45 : decode cX3_fillFewest 45 = .ok (.iload_n 3, 1) := by decide +kernel
theorem dX3_fillFewest_46 : decode cX3_fillFewest 46 = .ok (.iconst (-1), 1) := by decide +kernel
theorem dX3_fillFewest_47 : decode cX3_fillFewest 47 = .ok (.if_icmp .ne 7, 3) := by decide +kernel
theorem dX3_fillFewest_50 : decode cX3_fillFewest 50 = .ok (.iconst 0, 1) := by decide +kernel
theorem dX3_fillFewest_51 : decode cX3_fillFewest 51 = .ok (.goto 10, 3) := by decide +kernel
theorem dX3_fillFewest_54 : decode cX3_fillFewest 54 = .ok (.aload_n 0, 1) := by decide +kernel
theorem dX3_fillFewest_55 : decode cX3_fillFewest 55 = .ok (.iload_n 1, 1) := by decide +kernel
theorem dX3_fillFewest_56 : decode cX3_fillFewest 56 = .ok (.iload_n 2, 1) := by decide +kernel
theorem dX3_fillFewest_57 : decode cX3_fillFewest 57 = .ok (.iload_n 3, 1) := by decide +kernel
theorem dX3_fillFewest_58 : decode cX3_fillFewest 58 = .ok (.invokevirtual 53, 3) := by decide +kernel
theorem dX3_fillFewest_61 : decode cX3_fillFewest 61 = .ok (.istore 4, 2) := by decide +kernel
theorem dX3_fillFewest_63 : decode cX3_fillFewest 63 = .ok (.aload_n 0, 1) := by decide +kernel
theorem dX3_fillFewest_64 : decode cX3_fillFewest 64 = .ok (.getfield 20, 3) := by decide +kernel
theorem dX3_fillFewest_67 : decode cX3_fillFewest 67 = .ok (.iload_n 1, 1) := by decide +kernel
theorem dX3_fillFewest_68 : decode cX3_fillFewest 68 = .ok (.bipush 8, 2) := by decide +kernel
theorem dX3_fillFewest_70 : decode cX3_fillFewest 70 = .ok (.imul, 1) := by decide +kernel
theorem dX3_fillFewest_71 : decode cX3_fillFewest 71 = .ok (.iload_n 2, 1) := by decide +kernel
theorem dX3_fillFewest_72 : decode cX3_fillFewest 72 = .ok (.iadd, 1) := by decide +kernel
theorem dX3_fillFewest_73 : decode cX3_fillFewest 73 = .ok (.iload 4, 2) := by decide +kernel
theorem dX3_fillFewest_75 : decode cX3_fillFewest 75 = .ok (.invokevirtual 46, 3) := by decide +kernel
theorem dX3_fillFewest_78 : decode cX3_fillFewest 78 = .ok (.iinc 2 1, 3) := by decide +kernel
theorem dX3_fillFewest_81 : decode cX3_fillFewest 81 = .ok (.goto (-63), 3) := by decide +kernel
theorem dX3_fillFewest_84 : decode cX3_fillFewest 84 = .ok (.iinc 1 (-1), 3) := by decide +kernel
theorem dX3_fillFewest_87 : decode cX3_fillFewest 87 = .ok (.goto (-75), 3) := by decide +kernel
theorem dX3_fillFewest_90 : decode cX3_fillFewest 90 = .ok (.return_, 1) := by decide +kernel
set_option maxRecDepth 20000 in
theorem ggX3_bestBehind_X3_costBehind : GoodIn wsX3_bestBehind wsX3_costBehind := goodIn_r _ [6, 7, 8, 9, 10, 11, 12, 13, 14, 15, 16, 17, 23] (by decide +kernel) (by decide +kernel)
set_option maxRecDepth 20000 in
theorem gX3_bestBehind_X3_costBehind : GoodIn wsX3_bestBehind (wsV RX3 53 RX3 yX3_costBehind wsX3_costBehind) := goodIn_app (goodIn_of _ (by decide +kernel)) ggX3_bestBehind_X3_costBehind
theorem dX3_bestBehind_0 : decode cX3_bestBehind 0 = .ok (.iconst (-1), 1) := by decide +kernel
theorem dX3_bestBehind_1 : decode cX3_bestBehind 1 = .ok (.istore_n 3, 1) := by decide +kernel
theorem dX3_bestBehind_2 : decode cX3_bestBehind 2 = .ok (.iconst 0, 1) := by decide +kernel
theorem dX3_bestBehind_3 : decode cX3_bestBehind 3 = .ok (.istore 4, 2) := by decide +kernel
theorem dX3_bestBehind_5 : decode cX3_bestBehind 5 = .ok (.iconst 0, 1) := by decide +kernel
theorem dX3_bestBehind_6 : decode cX3_bestBehind 6 = .ok (.istore 5, 2) := by decide +kernel
theorem dX3_bestBehind_8 : decode cX3_bestBehind 8 = .ok (.iload 5, 2) := by decide +kernel
theorem dX3_bestBehind_10 : decode cX3_bestBehind 10 = .ok (.aload_n 0, 1) := by decide +kernel
theorem dX3_bestBehind_11 : decode cX3_bestBehind 11 = .ok (.getfield 23, 3) := by decide +kernel
theorem dX3_bestBehind_14 : decode cX3_bestBehind 14 = .ok (.getfield 33, 3) := by decide +kernel
theorem dX3_bestBehind_17 : decode cX3_bestBehind 17 = .ok (.if_icmp .ge 47, 3) := by decide +kernel
theorem dX3_bestBehind_20 : decode cX3_bestBehind 20 = .ok (.iload_n 1, 1) := by decide +kernel
theorem dX3_bestBehind_21 : decode cX3_bestBehind 21 = .ok (.iload 5, 2) := by decide +kernel
theorem dX3_bestBehind_23 : decode cX3_bestBehind 23 = .ok (.ishr, 1) := by decide +kernel
theorem dX3_bestBehind_24 : decode cX3_bestBehind 24 = .ok (.iconst 1, 1) := by decide +kernel
theorem dX3_bestBehind_25 : decode cX3_bestBehind 25 = .ok (.iand, 1) := by decide +kernel
theorem dX3_bestBehind_26 : decode cX3_bestBehind 26 = .ok (.ifCond .ne 32, 3) := by decide +kernel
theorem dX3_bestBehind_29 : decode cX3_bestBehind 29 = .ok (.aload_n 0, 1) := by decide +kernel
theorem dX3_bestBehind_30 : decode cX3_bestBehind 30 = .ok (.iload_n 1, 1) := by decide +kernel
theorem dX3_bestBehind_31 : decode cX3_bestBehind 31 = .ok (.iload_n 2, 1) := by decide +kernel
theorem dX3_bestBehind_32 : decode cX3_bestBehind 32 = .ok (.iload 5, 2) := by decide +kernel
theorem dX3_bestBehind_34 : decode cX3_bestBehind 34 = .ok (.invokevirtual 53, 3) := by decide +kernel
theorem dX3_bestBehind_37 : decode cX3_bestBehind 37 = .ok (.istore 6, 2) := by decide +kernel
theorem dX3_bestBehind_39 : decode cX3_bestBehind 39 = .ok (.iload_n 3, 1) := by decide +kernel
theorem dX3_bestBehind_40 : decode cX3_bestBehind 40 = .ok (.iconst (-1), 1) := by decide +kernel
theorem dX3_bestBehind_41 : decode cX3_bestBehind 41 = .ok (.if_icmp .eq 10, 3) := by decide +kernel
theorem dX3_bestBehind_44 : decode cX3_bestBehind 44 = .ok (.iload 6, 2) := by decide +kernel
theorem dX3_bestBehind_46 : decode cX3_bestBehind 46 = .ok (.iload 4, 2) := by decide +kernel
theorem dX3_bestBehind_48 : decode cX3_bestBehind 48 = .ok (.if_icmp .ge 10, 3) := by decide +kernel
theorem dX3_bestBehind_51 : decode cX3_bestBehind 51 = .ok (.iload 5, 2) := by decide +kernel
theorem dX3_bestBehind_53 : decode cX3_bestBehind 53 = .ok (.istore_n 3, 1) := by decide +kernel
theorem dX3_bestBehind_54 : decode cX3_bestBehind 54 = .ok (.iload 6, 2) := by decide +kernel
theorem dX3_bestBehind_56 : decode cX3_bestBehind 56 = .ok (.istore 4, 2) := by decide +kernel
theorem dX3_bestBehind_58 : decode cX3_bestBehind 58 = .ok (.iinc 5 1, 3) := by decide +kernel
theorem dX3_bestBehind_61 : decode cX3_bestBehind 61 = .ok (.goto (-53), 3) := by decide +kernel
theorem dX3_bestBehind_64 : decode cX3_bestBehind 64 = .ok (.iload_n 3, 1) := by decide +kernel
theorem dX3_bestBehind_65 : decode cX3_bestBehind 65 = .ok (.ireturn, 1) := by decide +kernel
set_option maxRecDepth 20000 in
theorem ggX3_costBehind_X4_read : GoodIn wsX3_costBehind wsX4_read := goodIn_r _ [7, 8, 12] (by decide +kernel) (by decide +kernel)
set_option maxRecDepth 20000 in
theorem gX3_costBehind_X4_read : GoodIn wsX3_costBehind (wsV RX3 57 RX4 yX4_read wsX4_read) := goodIn_app (goodIn_of _ (by decide +kernel)) ggX3_costBehind_X4_read
theorem dX3_costBehind_0 : decode cX3_costBehind 0 = .ok (.iload_n 2, 1) := by decide +kernel
theorem dX3_costBehind_1 : decode cX3_costBehind 1 = .ok (.iconst (-1), 1) := by decide +kernel
theorem dX3_costBehind_2 : decode cX3_costBehind 2 = .ok (.if_icmp .ne 7, 3) := by decide +kernel
theorem dX3_costBehind_5 : decode cX3_costBehind 5 = .ok (.iconst 0, 1) := by decide +kernel
theorem dX3_costBehind_6 : decode cX3_costBehind 6 = .ok (.goto 16, 3) := by decide +kernel
theorem dX3_costBehind_9 : decode cX3_costBehind 9 = .ok (.aload_n 0, 1) := by decide +kernel
theorem dX3_costBehind_10 : decode cX3_costBehind 10 = .ok (.getfield 14, 3) := by decide +kernel
theorem dX3_costBehind_13 : decode cX3_costBehind 13 = .ok (.iload_n 2, 1) := by decide +kernel
theorem dX3_costBehind_14 : decode cX3_costBehind 14 = .ok (.bipush 8, 2) := by decide +kernel
theorem dX3_costBehind_16 : decode cX3_costBehind 16 = .ok (.imul, 1) := by decide +kernel
theorem dX3_costBehind_17 : decode cX3_costBehind 17 = .ok (.iload_n 3, 1) := by decide +kernel
theorem dX3_costBehind_18 : decode cX3_costBehind 18 = .ok (.iadd, 1) := by decide +kernel
theorem dX3_costBehind_19 : decode cX3_costBehind 19 = .ok (.invokevirtual 57, 3) := by decide +kernel
theorem dX3_costBehind_22 : decode cX3_costBehind 22 = .ok (.istore 4, 2) := by decide +kernel
theorem dX3_costBehind_24 : decode cX3_costBehind 24 = .ok (.iload 4, 2) := by decide +kernel
theorem dX3_costBehind_26 : decode cX3_costBehind 26 = .ok (.aload_n 0, 1) := by decide +kernel
theorem dX3_costBehind_27 : decode cX3_costBehind 27 = .ok (.getfield 20, 3) := by decide +kernel
theorem dX3_costBehind_30 : decode cX3_costBehind 30 = .ok (.iload_n 1, 1) := by decide +kernel
theorem dX3_costBehind_31 : decode cX3_costBehind 31 = .ok (.iconst 1, 1) := by decide +kernel
theorem dX3_costBehind_32 : decode cX3_costBehind 32 = .ok (.iload_n 3, 1) := by decide +kernel
theorem dX3_costBehind_33 : decode cX3_costBehind 33 = .ok (.ishl, 1) := by decide +kernel
theorem dX3_costBehind_34 : decode cX3_costBehind 34 = .ok (.ior, 1) := by decide +kernel
theorem dX3_costBehind_35 : decode cX3_costBehind 35 = .ok (.bipush 8, 2) := by decide +kernel
theorem dX3_costBehind_37 : decode cX3_costBehind 37 = .ok (.imul, 1) := by decide +kernel
theorem dX3_costBehind_38 : decode cX3_costBehind 38 = .ok (.iload_n 3, 1) := by decide +kernel
theorem dX3_costBehind_39 : decode cX3_costBehind 39 = .ok (.iadd, 1) := by decide +kernel
theorem dX3_costBehind_40 : decode cX3_costBehind 40 = .ok (.invokevirtual 57, 3) := by decide +kernel
theorem dX3_costBehind_43 : decode cX3_costBehind 43 = .ok (.iadd, 1) := by decide +kernel
theorem dX3_costBehind_44 : decode cX3_costBehind 44 = .ok (.ireturn, 1) := by decide +kernel
theorem dX4_init_0 : decode cX4_init 0 = .ok (.aload_n 0, 1) := by decide +kernel
theorem dX4_init_1 : decode cX4_init 1 = .ok (.invokespecial 1, 3) := by decide +kernel
theorem dX4_init_4 : decode cX4_init 4 = .ok (.aload_n 0, 1) := by decide +kernel
theorem dX4_init_5 : decode cX4_init 5 = .ok (.iload_n 1, 1) := by decide +kernel
theorem dX4_init_6 : decode cX4_init 6 = .ok (.ifCond .le 7, 3) := by decide +kernel
theorem dX4_init_9 : decode cX4_init 9 = .ok (.iload_n 1, 1) := by decide +kernel
theorem dX4_init_10 : decode cX4_init 10 = .ok (.goto 4, 3) := by decide +kernel
theorem dX4_init_13 : decode cX4_init 13 = .ok (.iconst 0, 1) := by decide +kernel
theorem dX4_init_14 : decode cX4_init 14 = .ok (.newarray .int, 2) := by decide +kernel
theorem dX4_init_16 : decode cX4_init 16 = .ok (.putfield 7, 3) := by decide +kernel
theorem dX4_init_19 : decode cX4_init 19 = .ok (.return_, 1) := by decide +kernel
theorem dX4_read_0 : decode cX4_read 0 = .ok (.iload_n 1, 1) := by decide +kernel
theorem dX4_read_1 : decode cX4_read 1 = .ok (.ifCond .lt 21, 3) := by decide +kernel
theorem dX4_read_4 : decode cX4_read 4 = .ok (.iload_n 1, 1) := by decide +kernel
theorem dX4_read_5 : decode cX4_read 5 = .ok (.aload_n 0, 1) := by decide +kernel
theorem dX4_read_6 : decode cX4_read 6 = .ok (.getfield 7, 3) := by decide +kernel
theorem dX4_read_9 : decode cX4_read 9 = .ok (.arraylength, 1) := by decide +kernel
theorem dX4_read_10 : decode cX4_read 10 = .ok (.if_icmp .ge 12, 3) := by decide +kernel
theorem dX4_read_13 : decode cX4_read 13 = .ok (.aload_n 0, 1) := by decide +kernel
theorem dX4_read_14 : decode cX4_read 14 = .ok (.getfield 7, 3) := by decide +kernel
theorem dX4_read_17 : decode cX4_read 17 = .ok (.iload_n 1, 1) := by decide +kernel
theorem dX4_read_18 : decode cX4_read 18 = .ok (.iaload, 1) := by decide +kernel
theorem dX4_read_19 : decode cX4_read 19 = .ok (.goto 4, 3) := by decide +kernel
theorem dX4_read_22 : decode cX4_read 22 = .ok (.iconst 0, 1) := by decide +kernel
theorem dX4_read_23 : decode cX4_read 23 = .ok (.ireturn, 1) := by decide +kernel
theorem dX4_write_0 : decode cX4_write 0 = .ok (.iload_n 1, 1) := by decide +kernel
theorem dX4_write_1 : decode cX4_write 1 = .ok (.ifCond .lt 19, 3) := by decide +kernel
theorem dX4_write_4 : decode cX4_write 4 = .ok (.iload_n 1, 1) := by decide +kernel
theorem dX4_write_5 : decode cX4_write 5 = .ok (.aload_n 0, 1) := by decide +kernel
theorem dX4_write_6 : decode cX4_write 6 = .ok (.getfield 7, 3) := by decide +kernel
theorem dX4_write_9 : decode cX4_write 9 = .ok (.arraylength, 1) := by decide +kernel
theorem dX4_write_10 : decode cX4_write 10 = .ok (.if_icmp .ge 10, 3) := by decide +kernel
theorem dX4_write_13 : decode cX4_write 13 = .ok (.aload_n 0, 1) := by decide +kernel
theorem dX4_write_14 : decode cX4_write 14 = .ok (.getfield 7, 3) := by decide +kernel
theorem dX4_write_17 : decode cX4_write 17 = .ok (.iload_n 1, 1) := by decide +kernel
theorem dX4_write_18 : decode cX4_write 18 = .ok (.iload_n 2, 1) := by decide +kernel
theorem dX4_write_19 : decode cX4_write 19 = .ok (.iastore, 1) := by decide +kernel
theorem dX4_write_20 : decode cX4_write 20 = .ok (.return_, 1) := by decide +kernel
theorem dX4_fill_0 : decode cX4_fill 0 = .ok (.iconst 0, 1) := by decide +kernel
theorem dX4_fill_1 : decode cX4_fill 1 = .ok (.istore_n 2, 1) := by decide +kernel
theorem dX4_fill_2 : decode cX4_fill 2 = .ok (.iload_n 2, 1) := by decide +kernel
theorem dX4_fill_3 : decode cX4_fill 3 = .ok (.aload_n 0, 1) := by decide +kernel
theorem dX4_fill_4 : decode cX4_fill 4 = .ok (.getfield 7, 3) := by decide +kernel
theorem dX4_fill_7 : decode cX4_fill 7 = .ok (.arraylength, 1) := by decide +kernel
theorem dX4_fill_8 : decode cX4_fill 8 = .ok (.if_icmp .ge 16, 3) := by decide +kernel
theorem dX4_fill_11 : decode cX4_fill 11 = .ok (.aload_n 0, 1) := by decide +kernel
theorem dX4_fill_12 : decode cX4_fill 12 = .ok (.getfield 7, 3) := by decide +kernel
theorem dX4_fill_15 : decode cX4_fill 15 = .ok (.iload_n 2, 1) := by decide +kernel
theorem dX4_fill_16 : decode cX4_fill 16 = .ok (.iload_n 1, 1) := by decide +kernel
theorem dX4_fill_17 : decode cX4_fill 17 = .ok (.iastore, 1) := by decide +kernel
theorem dX4_fill_18 : decode cX4_fill 18 = .ok (.iinc 2 1, 3) := by decide +kernel
theorem dX4_fill_21 : decode cX4_fill 21 = .ok (.goto (-19), 3) := by decide +kernel
theorem dX4_fill_24 : decode cX4_fill 24 = .ok (.return_, 1) := by decide +kernel
set_option maxRecDepth 20000 in
theorem ggX5_init_X4_init : GoodIn wsX5_init wsX4_init := goodIn_r _ [12, 13, 2, 3, 14, 15, 20] (by decide +kernel) (by decide +kernel)
set_option maxRecDepth 20000 in
theorem gX5_init_X4_init : GoodIn wsX5_init (wsX4_init) := ggX5_init_X4_init
set_option maxRecDepth 20000 in
theorem ggX5_init_X4_fill : GoodIn wsX5_init wsX4_fill := goodIn_r _ [19, 15, 20] (by decide +kernel) (by decide +kernel)
set_option maxRecDepth 20000 in
theorem gX5_init_X4_fill : GoodIn wsX5_init (wsV RX5 26 RX4 yX4_fill wsX4_fill) := goodIn_app (goodIn_of _ (by decide +kernel)) ggX5_init_X4_fill
theorem dX5_init_0 : decode cX5_init 0 = .ok (.aload_n 0, 1) := by decide +kernel
theorem dX5_init_1 : decode cX5_init 1 = .ok (.invokespecial 3, 3) := by decide +kernel
theorem dX5_init_4 : decode cX5_init 4 = .ok (.aload_n 0, 1) := by decide +kernel
theorem dX5_init_5 : decode cX5_init 5 = .ok (.new 9, 3) := by decide +kernel
theorem dX5_init_8 : decode cX5_init 8 = .ok (.dup, 1) := by decide +kernel
theorem dX5_init_9 : decode cX5_init 9 = .ok (.iconst 4, 1) := by decide +kernel
theorem dX5_init_10 : decode cX5_init 10 = .ok (.invokespecial 11, 3) := by decide +kernel
theorem dX5_init_13 : decode cX5_init 13 = .ok (.putfield 14, 3) := by decide +kernel
theorem dX5_init_16 : decode cX5_init 16 = .ok (.aload_n 0, 1) := by decide +kernel
theorem dX5_init_17 : decode cX5_init 17 = .ok (.new 9, 3) := by decide +kernel
theorem dX5_init_20 : decode cX5_init 20 = .ok (.dup, 1) := by decide +kernel
theorem dX5_init_21 : decode cX5_init 21 = .ok (.iconst 4, 1) := by decide +kernel
theorem dX5_init_22 : decode cX5_init 22 = .ok (.invokespecial 11, 3) := by decide +kernel
theorem dX5_init_25 : decode cX5_init 25 = .ok (.putfield 20, 3) := by decide +kernel
theorem dX5_init_28 : decode cX5_init 28 = .ok (.aload_n 0, 1) := by decide +kernel
theorem dX5_init_29 : decode cX5_init 29 = .ok (.new 9, 3) := by decide +kernel
theorem dX5_init_32 : decode cX5_init 32 = .ok (.dup, 1) := by decide +kernel
theorem dX5_init_33 : decode cX5_init 33 = .ok (.sipush 240, 3) := by decide +kernel
theorem dX5_init_36 : decode cX5_init 36 = .ok (.invokespecial 11, 3) := by decide +kernel
theorem dX5_init_39 : decode cX5_init 39 = .ok (.putfield 23, 3) := by decide +kernel
theorem dX5_init_42 : decode cX5_init 42 = .ok (.aload_n 0, 1) := by decide +kernel
theorem dX5_init_43 : decode cX5_init 43 = .ok (.getfield 14, 3) := by decide +kernel
theorem dX5_init_46 : decode cX5_init 46 = .ok (.iconst (-1), 1) := by decide +kernel
theorem dX5_init_47 : decode cX5_init 47 = .ok (.invokevirtual 26, 3) := by decide +kernel
theorem dX5_init_50 : decode cX5_init 50 = .ok (.return_, 1) := by decide +kernel
set_option maxRecDepth 20000 in
theorem ggX5_isLost_X4_read : GoodIn wsX5_isLost wsX4_read := goodIn_r _ [6, 7, 11] (by decide +kernel) (by decide +kernel)
set_option maxRecDepth 20000 in
theorem gX5_isLost_X4_read : GoodIn wsX5_isLost (wsV RX5 29 RX4 yX4_read wsX4_read) := goodIn_app (goodIn_of _ (by decide +kernel)) ggX5_isLost_X4_read
theorem dX5_isLost_0 : decode cX5_isLost 0 = .ok (.aload_n 0, 1) := by decide +kernel
theorem dX5_isLost_1 : decode cX5_isLost 1 = .ok (.getfield 14, 3) := by decide +kernel
theorem dX5_isLost_4 : decode cX5_isLost 4 = .ok (.iload_n 1, 1) := by decide +kernel
theorem dX5_isLost_5 : decode cX5_isLost 5 = .ok (.invokevirtual 29, 3) := by decide +kernel
theorem dX5_isLost_8 : decode cX5_isLost 8 = .ok (.iconst (-1), 1) := by decide +kernel
theorem dX5_isLost_9 : decode cX5_isLost 9 = .ok (.if_icmp .ne 7, 3) := by decide +kernel
theorem dX5_isLost_12 : decode cX5_isLost 12 = .ok (.iconst 1, 1) := by decide +kernel
theorem dX5_isLost_13 : decode cX5_isLost 13 = .ok (.goto 4, 3) := by decide +kernel
theorem dX5_isLost_16 : decode cX5_isLost 16 = .ok (.iconst 0, 1) := by decide +kernel
theorem dX5_isLost_17 : decode cX5_isLost 17 = .ok (.ireturn, 1) := by decide +kernel
set_option maxRecDepth 20000 in
theorem ggX5_holds_X4_read : GoodIn wsX5_holds wsX4_read := goodIn_r _ [6, 7, 11] (by decide +kernel) (by decide +kernel)
set_option maxRecDepth 20000 in
theorem gX5_holds_X4_read : GoodIn wsX5_holds (wsV RX5 29 RX4 yX4_read wsX4_read) := goodIn_app (goodIn_of _ (by decide +kernel)) ggX5_holds_X4_read
theorem dX5_holds_0 : decode cX5_holds 0 = .ok (.iload_n 2, 1) := by decide +kernel
theorem dX5_holds_1 : decode cX5_holds 1 = .ok (.ifCond .lt 37, 3) := by decide +kernel
theorem dX5_holds_4 : decode cX5_holds 4 = .ok (.iload_n 3, 1) := by decide +kernel
theorem dX5_holds_5 : decode cX5_holds 5 = .ok (.ifCond .lt 33, 3) := by decide +kernel
theorem dX5_holds_8 : decode cX5_holds 8 = .ok (.iload_n 2, 1) := by decide +kernel
theorem dX5_holds_9 : decode cX5_holds 9 = .ok (.aload_n 0, 1) := by decide +kernel
theorem dX5_holds_10 : decode cX5_holds 10 = .ok (.getfield 20, 3) := by decide +kernel
theorem dX5_holds_13 : decode cX5_holds 13 = .ok (.iload_n 1, 1) := by decide +kernel
theorem dX5_holds_14 : decode cX5_holds 14 = .ok (.invokevirtual 29, 3) := by decide +kernel
theorem dX5_holds_17 : decode cX5_holds 17 = .ok (.if_icmp .gt 21, 3) := by decide +kernel
theorem dX5_holds_20 : decode cX5_holds 20 = .ok (.iload_n 3, 1) := by decide +kernel
theorem dX5_holds_21 : decode cX5_holds 21 = .ok (.aload_n 0, 1) := by decide +kernel
theorem dX5_holds_22 : decode cX5_holds 22 = .ok (.getfield 20, 3) := by decide +kernel
theorem dX5_holds_25 : decode cX5_holds 25 = .ok (.iload_n 1, 1) := by decide +kernel
theorem dX5_holds_26 : decode cX5_holds 26 = .ok (.invokevirtual 29, 3) := by decide +kernel
theorem dX5_holds_29 : decode cX5_holds 29 = .ok (.iload_n 2, 1) := by decide +kernel
theorem dX5_holds_30 : decode cX5_holds 30 = .ok (.isub, 1) := by decide +kernel
theorem dX5_holds_31 : decode cX5_holds 31 = .ok (.if_icmp .gt 7, 3) := by decide +kernel
theorem dX5_holds_34 : decode cX5_holds 34 = .ok (.iconst 1, 1) := by decide +kernel
theorem dX5_holds_35 : decode cX5_holds 35 = .ok (.goto 4, 3) := by decide +kernel
theorem dX5_holds_38 : decode cX5_holds 38 = .ok (.iconst 0, 1) := by decide +kernel
theorem dX5_holds_39 : decode cX5_holds 39 = .ok (.ireturn, 1) := by decide +kernel
set_option maxRecDepth 20000 in
theorem ggX5_findingAt_X5_isLost : GoodIn wsX5_findingAt wsX5_isLost := goodIn_r _ [7, 1, 8, 9, 10, 11, 12, 13, 14, 15, 16, 17] (by decide +kernel) (by decide +kernel)
set_option maxRecDepth 20000 in
theorem gX5_findingAt_X5_isLost : GoodIn wsX5_findingAt (wsV RX5 33 RX5 yX5_isLost wsX5_isLost) := goodIn_app (goodIn_of _ (by decide +kernel)) ggX5_findingAt_X5_isLost
set_option maxRecDepth 20000 in
theorem ggX5_findingAt_X4_read : GoodIn wsX5_findingAt wsX4_read := goodIn_r _ [12, 13, 17] (by decide +kernel) (by decide +kernel)
set_option maxRecDepth 20000 in
theorem gX5_findingAt_X4_read : GoodIn wsX5_findingAt (wsV RX5 29 RX4 yX4_read wsX4_read) := goodIn_app (goodIn_of _ (by decide +kernel)) ggX5_findingAt_X4_read
theorem dX5_findingAt_0 : decode cX5_findingAt 0 = .ok (.aload_n 0, 1) := by decide +kernel
theorem dX5_findingAt_1 : decode cX5_findingAt 1 = .ok (.iload_n 1, 1) := by decide +kernel
theorem dX5_findingAt_2 : decode cX5_findingAt 2 = .ok (.invokevirtual 33, 3) := by decide +kernel
theorem dX5_findingAt_5 : decode cX5_findingAt 5 = .ok (.ifCond .eq 5, 3) := by decide +kernel
theorem dX5_findingAt_8 : decode cX5_findingAt 8 = .ok (.iconst 1, 1) := by decide +kernel
theorem dX5_findingAt_9 : decode cX5_findingAt 9 = .ok (.ireturn, 1) := by decide +kernel
theorem dX5_findingAt_10 : decode cX5_findingAt 10 = .ok (.aload_n 0, 1) := by decide +kernel
theorem dX5_findingAt_11 : decode cX5_findingAt 11 = .ok (.getfield 14, 3) := by decide +kernel
theorem dX5_findingAt_14 : decode cX5_findingAt 14 = .ok (.iload_n 1, 1) := by decide +kernel
theorem dX5_findingAt_15 : decode cX5_findingAt 15 = .ok (.invokevirtual 29, 3) := by decide +kernel
theorem dX5_findingAt_18 : decode cX5_findingAt 18 = .ok (.iload_n 2, 1) := by decide +kernel
theorem dX5_findingAt_19 : decode cX5_findingAt 19 = .ok (.if_icmp .eq 5, 3) := by decide +kernel
theorem dX5_findingAt_22 : decode cX5_findingAt 22 = .ok (.iconst 3, 1) := by decide +kernel
theorem dX5_findingAt_23 : decode cX5_findingAt 23 = .ok (.ireturn, 1) := by decide +kernel
theorem dX5_findingAt_24 : decode cX5_findingAt 24 = .ok (.iload_n 3, 1) := by decide +kernel
theorem dX5_findingAt_25 : decode cX5_findingAt 25 = .ok (.ifCond .lt 19, 3) := by decide +kernel
theorem dX5_findingAt_28 : decode cX5_findingAt 28 = .ok (.iload_n 3, 1) := by decide +kernel
theorem dX5_findingAt_29 : decode cX5_findingAt 29 = .ok (.aload_n 0, 1) := by decide +kernel
theorem dX5_findingAt_30 : decode cX5_findingAt 30 = .ok (.getfield 20, 3) := by decide +kernel
theorem dX5_findingAt_33 : decode cX5_findingAt 33 = .ok (.iload_n 1, 1) := by decide +kernel
theorem dX5_findingAt_34 : decode cX5_findingAt 34 = .ok (.invokevirtual 29, 3) := by decide +kernel
theorem dX5_findingAt_37 : decode cX5_findingAt 37 = .ok (.if_icmp .ge 7, 3) := by decide +kernel
theorem dX5_findingAt_40 : decode cX5_findingAt 40 = .ok (.iconst 0, 1) := by decide +kernel
theorem dX5_findingAt_41 : decode cX5_findingAt 41 = .ok (.goto 4, 3) := by decide +kernel
theorem dX5_findingAt_44 : decode cX5_findingAt 44 = .ok (.iconst 2, 1) := by decide +kernel
theorem dX5_findingAt_45 : decode cX5_findingAt 45 = .ok (.ireturn, 1) := by decide +kernel
set_option maxRecDepth 20000 in
theorem ggX5_renew_X4_write : GoodIn wsX5_renew wsX4_write := goodIn_r _ [8, 9, 13] (by decide +kernel) (by decide +kernel)
set_option maxRecDepth 20000 in
theorem gX5_renew_X4_write : GoodIn wsX5_renew (wsV RX5 37 RX4 yX4_write wsX4_write) := goodIn_app (goodIn_of _ (by decide +kernel)) ggX5_renew_X4_write
theorem dX5_renew_0 : decode cX5_renew 0 = .ok (.aload_n 0, 1) := by decide +kernel
theorem dX5_renew_1 : decode cX5_renew 1 = .ok (.getfield 14, 3) := by decide +kernel
theorem dX5_renew_4 : decode cX5_renew 4 = .ok (.iload_n 1, 1) := by decide +kernel
theorem dX5_renew_5 : decode cX5_renew 5 = .ok (.iload_n 2, 1) := by decide +kernel
theorem dX5_renew_6 : decode cX5_renew 6 = .ok (.invokevirtual 37, 3) := by decide +kernel
theorem dX5_renew_9 : decode cX5_renew 9 = .ok (.aload_n 0, 1) := by decide +kernel
theorem dX5_renew_10 : decode cX5_renew 10 = .ok (.getfield 20, 3) := by decide +kernel
theorem dX5_renew_13 : decode cX5_renew 13 = .ok (.iload_n 1, 1) := by decide +kernel
theorem dX5_renew_14 : decode cX5_renew 14 = .ok (.iload_n 3, 1) := by decide +kernel
theorem dX5_renew_15 : decode cX5_renew 15 = .ok (.invokevirtual 37, 3) := by decide +kernel
theorem dX5_renew_18 : decode cX5_renew 18 = .ok (.iconst 0, 1) := by decide +kernel
theorem dX5_renew_19 : decode cX5_renew 19 = .ok (.istore 4, 2) := by decide +kernel
theorem dX5_renew_21 : decode cX5_renew 21 = .ok (.iload 4, 2) := by decide +kernel
theorem dX5_renew_23 : decode cX5_renew 23 = .ok (.bipush 60, 2) := by decide +kernel
theorem dX5_renew_25 : decode cX5_renew 25 = .ok (.if_icmp .ge 24, 3) := by decide +kernel
theorem dX5_renew_28 : decode cX5_renew 28 = .ok (.aload_n 0, 1) := by decide +kernel
theorem dX5_renew_29 : decode cX5_renew 29 = .ok (.getfield 23, 3) := by decide +kernel
theorem dX5_renew_32 : decode cX5_renew 32 = .ok (.iload_n 1, 1) := by decide +kernel
theorem dX5_renew_33 : decode cX5_renew 33 = .ok (.bipush 60, 2) := by decide +kernel
theorem dX5_renew_35 : decode cX5_renew 35 = .ok (.imul, 1) := by decide +kernel
theorem dX5_renew_36 : decode cX5_renew 36 = .ok (.iload 4, 2) := by decide +kernel
theorem dX5_renew_38 : decode cX5_renew 38 = .ok (.iadd, 1) := by decide +kernel
theorem dX5_renew_39 : decode cX5_renew 39 = .ok (.iconst 0, 1) := by decide +kernel
theorem dX5_renew_40 : decode cX5_renew 40 = .ok (.invokevirtual 37, 3) := by decide +kernel
theorem dX5_renew_43 : decode cX5_renew 43 = .ok (.iinc 4 1, 3) := by decide +kernel
theorem dX5_renew_46 : decode cX5_renew 46 = .ok (.goto (-25), 3) := by decide +kernel
theorem dX5_renew_49 : decode cX5_renew 49 = .ok (.return_, 1) := by decide +kernel
set_option maxRecDepth 20000 in
theorem ggX5_item_X4_read : GoodIn wsX5_item wsX4_read := goodIn_r _ [6, 7, 11] (by decide +kernel) (by decide +kernel)
set_option maxRecDepth 20000 in
theorem gX5_item_X4_read : GoodIn wsX5_item (wsV RX5 29 RX4 yX4_read wsX4_read) := goodIn_app (goodIn_of _ (by decide +kernel)) ggX5_item_X4_read
theorem dX5_item_0 : decode cX5_item 0 = .ok (.aload_n 0, 1) := by decide +kernel
theorem dX5_item_1 : decode cX5_item 1 = .ok (.getfield 23, 3) := by decide +kernel
theorem dX5_item_4 : decode cX5_item 4 = .ok (.iload_n 1, 1) := by decide +kernel
theorem dX5_item_5 : decode cX5_item 5 = .ok (.bipush 60, 2) := by decide +kernel
theorem dX5_item_7 : decode cX5_item 7 = .ok (.imul, 1) := by decide +kernel
theorem dX5_item_8 : decode cX5_item 8 = .ok (.iload_n 2, 1) := by decide +kernel
theorem dX5_item_9 : decode cX5_item 9 = .ok (.iadd, 1) := by decide +kernel
theorem dX5_item_10 : decode cX5_item 10 = .ok (.invokevirtual 29, 3) := by decide +kernel
theorem dX5_item_13 : decode cX5_item 13 = .ok (.ireturn, 1) := by decide +kernel
set_option maxRecDepth 20000 in
theorem ggX5_setItem_X4_read : GoodIn wsX5_setItem wsX4_read := goodIn_r _ [7, 8, 20] (by decide +kernel) (by decide +kernel)
set_option maxRecDepth 20000 in
theorem gX5_setItem_X4_read : GoodIn wsX5_setItem (wsV RX5 29 RX4 yX4_read wsX4_read) := goodIn_app (goodIn_of _ (by decide +kernel)) ggX5_setItem_X4_read
set_option maxRecDepth 20000 in
theorem ggX5_setItem_X5_lowestBits : GoodIn wsX5_setItem wsX5_lowestBits := goodIn_r _ [12] (by decide +kernel) (by decide +kernel)
set_option maxRecDepth 20000 in
theorem gX5_setItem_X5_lowestBits : GoodIn wsX5_setItem (va_wsS RX5 41 yX5_lowestBits wsX5_lowestBits) := goodIn_app (goodIn_of _ (by decide +kernel)) ggX5_setItem_X5_lowestBits
set_option maxRecDepth 20000 in
theorem ggX5_setItem_X4_write : GoodIn wsX5_setItem wsX4_write := goodIn_r _ [16, 8, 20] (by decide +kernel) (by decide +kernel)
set_option maxRecDepth 20000 in
theorem gX5_setItem_X4_write : GoodIn wsX5_setItem (wsV RX5 37 RX4 yX4_write wsX4_write) := goodIn_app (goodIn_of _ (by decide +kernel)) ggX5_setItem_X4_write
theorem dX5_setItem_0 : decode cX5_setItem 0 = .ok (.aload_n 0, 1) := by decide +kernel
theorem dX5_setItem_1 : decode cX5_setItem 1 = .ok (.getfield 23, 3) := by decide +kernel
theorem dX5_setItem_4 : decode cX5_setItem 4 = .ok (.iload_n 1, 1) := by decide +kernel
theorem dX5_setItem_5 : decode cX5_setItem 5 = .ok (.bipush 60, 2) := by decide +kernel
theorem dX5_setItem_7 : decode cX5_setItem 7 = .ok (.imul, 1) := by decide +kernel
theorem dX5_setItem_8 : decode cX5_setItem 8 = .ok (.iload_n 2, 1) := by decide +kernel
theorem dX5_setItem_9 : decode cX5_setItem 9 = .ok (.iadd, 1) := by decide +kernel
theorem dX5_setItem_10 : decode cX5_setItem 10 = .ok (.aload_n 0, 1) := by decide +kernel
theorem dX5_setItem_11 : decode cX5_setItem 11 = .ok (.getfield 14, 3) := by decide +kernel
theorem dX5_setItem_14 : decode cX5_setItem 14 = .ok (.iload_n 1, 1) := by decide +kernel
theorem dX5_setItem_15 : decode cX5_setItem 15 = .ok (.invokevirtual 29, 3) := by decide +kernel
theorem dX5_setItem_18 : decode cX5_setItem 18 = .ok (.iload_n 3, 1) := by decide +kernel
theorem dX5_setItem_19 : decode cX5_setItem 19 = .ok (.invokestatic 41, 3) := by decide +kernel
theorem dX5_setItem_22 : decode cX5_setItem 22 = .ok (.invokevirtual 37, 3) := by decide +kernel
theorem dX5_setItem_25 : decode cX5_setItem 25 = .ok (.return_, 1) := by decide +kernel
theorem dX5_lowestBits_0 : decode cX5_lowestBits 0 = .ok (.iload_n 0, 1) := by decide +kernel
theorem dX5_lowestBits_1 : decode cX5_lowestBits 1 = .ok (.ifCond .ne 6, 3) := by decide +kernel
theorem dX5_lowestBits_4 : decode cX5_lowestBits 4 = .ok (.iload_n 1, 1) := by decide +kernel
theorem dX5_lowestBits_5 : decode cX5_lowestBits 5 = .ok (.i2b, 1) := by decide +kernel
theorem dX5_lowestBits_6 : decode cX5_lowestBits 6 = .ok (.ireturn, 1) := by decide +kernel
theorem dX5_lowestBits_7 : decode cX5_lowestBits 7 = .ok (.iload_n 0, 1) := by decide +kernel
theorem dX5_lowestBits_8 : decode cX5_lowestBits 8 = .ok (.iconst 1, 1) := by decide +kernel
theorem dX5_lowestBits_9 : decode cX5_lowestBits 9 = .ok (.if_icmp .ne 8, 3) := by decide +kernel
theorem dX5_lowestBits_12 : decode cX5_lowestBits 12 = .ok (.iload_n 1, 1) := by decide +kernel
theorem dX5_lowestBits_13 : decode cX5_lowestBits 13 = .ok (.i2s, 1) := by decide +kernel
theorem dX5_lowestBits_14 : decode cX5_lowestBits 14 = .ok (.goto 4, 3) := by decide +kernel
theorem dX5_lowestBits_17 : decode cX5_lowestBits 17 = .ok (.iload_n 1, 1) := by decide +kernel
theorem dX5_lowestBits_18 : decode cX5_lowestBits 18 = .ok (.ireturn, 1) := by decide +kernel
set_option maxRecDepth 20000 in
theorem ggX5_moveItems_X5_item : GoodIn wsX5_moveItems wsX5_item := goodIn_r _ [5, 6, 7, 8, 9, 10, 11, 12, 25, 26, 27, 28] (by decide +kernel) (by decide +kernel)
set_option maxRecDepth 20000 in
theorem gX5_moveItems_X5_item : GoodIn wsX5_moveItems (wsV RX5 45 RX5 yX5_item wsX5_item) := goodIn_app (goodIn_of _ (by decide +kernel)) ggX5_moveItems_X5_item
set_option maxRecDepth 20000 in
theorem ggX5_moveItems_X5_setItem : GoodIn wsX5_moveItems wsX5_setItem := goodIn_r _ [16, 6, 17, 7, 8, 9, 10, 11, 12, 18, 19, 4, 20, 21, 22, 23, 24, 25, 26, 27, 28] (by decide +kernel) (by decide +kernel)
set_option maxRecDepth 20000 in
theorem gX5_moveItems_X5_setItem : GoodIn wsX5_moveItems (wsV RX5 48 RX5 yX5_setItem wsX5_setItem) := goodIn_app (goodIn_of _ (by decide +kernel)) ggX5_moveItems_X5_setItem
theorem dX5_moveItems_0 : decode cX5_moveItems 0 = .ok (.iload_n 2, 1) := by decide +kernel
theorem dX5_moveItems_1 : decode cX5_moveItems 1 = .ok (.iload 4, 2) := by decide +kernel
theorem dX5_moveItems_3 : decode cX5_moveItems 3 = .ok (.if_icmp .ge 7, 3) := by decide +kernel
theorem dX5_moveItems_6 : decode cX5_moveItems 6 = .ok (.iconst 1, 1) := by decide +kernel
theorem dX5_moveItems_7 : decode cX5_moveItems 7 = .ok (.goto 4, 3) := by decide +kernel
theorem dX5_moveItems_10 : decode cX5_moveItems 10 = .ok (.iconst 0, 1) := by decide +kernel
theorem dX5_moveItems_11 : decode cX5_moveItems 11 = .ok (.istore 6, 2) := by decide +kernel
theorem dX5_moveItems_13 : decode cX5_moveItems 13 = .ok (.iconst 0, 1) := by decide +kernel
theorem dX5_moveItems_14 : decode cX5_moveItems 14 = .ok (.istore 7, 2) := by decide +kernel
theorem dX5_moveItems_16 : decode cX5_moveItems 16 = .ok (.iload 7, 2) := by decide +kernel
theorem dX5_moveItems_18 : decode cX5_moveItems 18 = .ok (.iload 5, 2) := by decide +kernel
theorem dX5_moveItems_20 : decode cX5_moveItems 20 = .ok (.if_icmp .ge 47, 3) := by decide +kernel
theorem dX5_moveItems_23 : decode cX5_moveItems 23 = .ok (.iload 6, 2) := by decide +kernel
theorem dX5_moveItems_25 : decode cX5_moveItems 25 = .ok (.ifCond .eq 13, 3) := by decide +kernel
theorem dX5_moveItems_28 : decode cX5_moveItems 28 = .ok (.iload 5, 2) := by decide +kernel
theorem dX5_moveItems_30 : decode cX5_moveItems 30 = .ok (.iconst 1, 1) := by decide +kernel
theorem dX5_moveItems_31 : decode cX5_moveItems 31 = .ok (.isub, 1) := by decide +kernel
theorem dX5_moveItems_32 : decode cX5_moveItems 32 = .ok (.iload 7, 2) := by decide +kernel
theorem dX5_moveItems_34 : decode cX5_moveItems 34 = .ok (.isub, 1) := by decide +kernel
theorem dX5_moveItems_35 : decode cX5_moveItems 35 = .ok (.goto 5, 3) := by decide +kernel
theorem dX5_moveItems_38 : decode cX5_moveItems 38 = .ok (.iload 7, 2) := by decide +kernel
theorem dX5_moveItems_40 : decode cX5_moveItems 40 = .ok (.istore 8, 2) := by decide +kernel
theorem dX5_moveItems_42 : decode cX5_moveItems 42 = .ok (.aload_n 0, 1) := by decide +kernel
theorem dX5_moveItems_43 : decode cX5_moveItems 43 = .ok (.iload_n 3, 1) := by decide +kernel
theorem dX5_moveItems_44 : decode cX5_moveItems 44 = .ok (.iload 4, 2) := by decide +kernel
theorem dX5_moveItems_46 : decode cX5_moveItems 46 = .ok (.iload 8, 2) := by decide +kernel
theorem dX5_moveItems_48 : decode cX5_moveItems 48 = .ok (.iadd, 1) := by decide +kernel
theorem dX5_moveItems_49 : decode cX5_moveItems 49 = .ok (.aload_n 0, 1) := by decide +kernel
theorem dX5_moveItems_50 : decode cX5_moveItems 50 = .ok (.iload_n 1, 1) := by decide +kernel
theorem dX5_moveItems_51 : decode cX5_moveItems 51 = .ok (.iload_n 2, 1) := by decide +kernel
theorem dX5_moveItems_52 : decode cX5_moveItems 52 = .ok (.iload 8, 2) := by decide +kernel
theorem dX5_moveItems_54 : decode cX5_moveItems 54 = .ok (.iadd, 1) := by decide +kernel
theorem dX5_moveItems_55 : decode cX5_moveItems 55 = .ok (.invokevirtual 45, 3) := by decide +kernel
theorem dX5_moveItems_58 : decode cX5_moveItems 58 = .ok (.invokevirtual 48, 3) := by decide +kernel
theorem dX5_moveItems_61 : decode cX5_moveItems 61 = .ok (.iinc 7 1, 3) := by decide +kernel
theorem dX5_moveItems_64 : decode cX5_moveItems 64 = .ok (.goto (-48), 3) := by decide +kernel
theorem dX5_moveItems_67 : decode cX5_moveItems 67 = .ok (.return_, 1) := by decide +kernel
set_option maxRecDepth 20000 in
theorem ggX6_init_X4_init : GoodIn wsX6_init wsX4_init := goodIn_r _ [14, 15, 2, 3, 16, 17, 23] (by decide +kernel) (by decide +kernel)
set_option maxRecDepth 20000 in
theorem gX6_init_X4_init : GoodIn wsX6_init (wsX4_init) := ggX6_init_X4_init
theorem dX6_init_0 : decode cX6_init 0 = .ok (.aload_n 0, 1) := by decide +kernel
theorem dX6_init_1 : decode cX6_init 1 = .ok (.invokespecial 3, 3) := by decide +kernel
theorem dX6_init_4 : decode cX6_init 4 = .ok (.aload_n 0, 1) := by decide +kernel
theorem dX6_init_5 : decode cX6_init 5 = .ok (.iconst 0, 1) := by decide +kernel
theorem dX6_init_6 : decode cX6_init 6 = .ok (.putfield 9, 3) := by decide +kernel
theorem dX6_init_9 : decode cX6_init 9 = .ok (.aload_n 0, 1) := by decide +kernel
theorem dX6_init_10 : decode cX6_init 10 = .ok (.new 15, 3) := by decide +kernel
theorem dX6_init_13 : decode cX6_init 13 = .ok (.dup, 1) := by decide +kernel
theorem dX6_init_14 : decode cX6_init 14 = .ok (.bipush 12, 2) := by decide +kernel
theorem dX6_init_16 : decode cX6_init 16 = .ok (.invokespecial 17, 3) := by decide +kernel
theorem dX6_init_19 : decode cX6_init 19 = .ok (.putfield 20, 3) := by decide +kernel
theorem dX6_init_22 : decode cX6_init 22 = .ok (.aload_n 0, 1) := by decide +kernel
theorem dX6_init_23 : decode cX6_init 23 = .ok (.new 15, 3) := by decide +kernel
theorem dX6_init_26 : decode cX6_init 26 = .ok (.dup, 1) := by decide +kernel
theorem dX6_init_27 : decode cX6_init 27 = .ok (.bipush 12, 2) := by decide +kernel
theorem dX6_init_29 : decode cX6_init 29 = .ok (.invokespecial 17, 3) := by decide +kernel
theorem dX6_init_32 : decode cX6_init 32 = .ok (.putfield 24, 3) := by decide +kernel
theorem dX6_init_35 : decode cX6_init 35 = .ok (.aload_n 0, 1) := by decide +kernel
theorem dX6_init_36 : decode cX6_init 36 = .ok (.new 15, 3) := by decide +kernel
theorem dX6_init_39 : decode cX6_init 39 = .ok (.dup, 1) := by decide +kernel
theorem dX6_init_40 : decode cX6_init 40 = .ok (.bipush 12, 2) := by decide +kernel
theorem dX6_init_42 : decode cX6_init 42 = .ok (.invokespecial 17, 3) := by decide +kernel
theorem dX6_init_45 : decode cX6_init 45 = .ok (.putfield 27, 3) := by decide +kernel
theorem dX6_init_48 : decode cX6_init 48 = .ok (.aload_n 0, 1) := by decide +kernel
theorem dX6_init_49 : decode cX6_init 49 = .ok (.aload_n 1, 1) := by decide +kernel
theorem dX6_init_50 : decode cX6_init 50 = .ok (.putfield 30, 3) := by decide +kernel
theorem dX6_init_53 : decode cX6_init 53 = .ok (.return_, 1) := by decide +kernel
set_option maxRecDepth 20000 in
theorem ggX6_add_X4_write : GoodIn wsX6_add wsX4_write := goodIn_r _ [9, 10, 16] (by decide +kernel) (by decide +kernel)
set_option maxRecDepth 20000 in
theorem gX6_add_X4_write : GoodIn wsX6_add (wsV RX6 34 RX4 yX4_write wsX4_write) := goodIn_app (goodIn_of _ (by decide +kernel)) ggX6_add_X4_write
theorem dX6_add_0 : decode cX6_add 0 = .ok (.aload_n 0, 1) := by decide +kernel
theorem dX6_add_1 : decode cX6_add 1 = .ok (.getfield 20, 3) := by decide +kernel
theorem dX6_add_4 : decode cX6_add 4 = .ok (.aload_n 0, 1) := by decide +kernel
theorem dX6_add_5 : decode cX6_add 5 = .ok (.getfield 9, 3) := by decide +kernel
theorem dX6_add_8 : decode cX6_add 8 = .ok (.iload_n 1, 1) := by decide +kernel
theorem dX6_add_9 : decode cX6_add 9 = .ok (.invokevirtual 34, 3) := by decide +kernel
theorem dX6_add_12 : decode cX6_add 12 = .ok (.aload_n 0, 1) := by decide +kernel
theorem dX6_add_13 : decode cX6_add 13 = .ok (.getfield 24, 3) := by decide +kernel
theorem dX6_add_16 : decode cX6_add 16 = .ok (.aload_n 0, 1) := by decide +kernel
theorem dX6_add_17 : decode cX6_add 17 = .ok (.getfield 9, 3) := by decide +kernel
theorem dX6_add_20 : decode cX6_add 20 = .ok (.iload_n 2, 1) := by decide +kernel
theorem dX6_add_21 : decode cX6_add 21 = .ok (.invokevirtual 34, 3) := by decide +kernel
theorem dX6_add_24 : decode cX6_add 24 = .ok (.aload_n 0, 1) := by decide +kernel
theorem dX6_add_25 : decode cX6_add 25 = .ok (.getfield 27, 3) := by decide +kernel
theorem dX6_add_28 : decode cX6_add 28 = .ok (.aload_n 0, 1) := by decide +kernel
theorem dX6_add_29 : decode cX6_add 29 = .ok (.getfield 9, 3) := by decide +kernel
theorem dX6_add_32 : decode cX6_add 32 = .ok (.aload_n 0, 1) := by decide +kernel
theorem dX6_add_33 : decode cX6_add 33 = .ok (.getfield 9, 3) := by decide +kernel
theorem dX6_add_36 : decode cX6_add 36 = .ok (.invokevirtual 34, 3) := by decide +kernel
theorem dX6_add_39 : decode cX6_add 39 = .ok (.aload_n 0, 1) := by decide +kernel
theorem dX6_add_40 : decode cX6_add 40 = .ok (.dup, 1) := by decide +kernel
theorem dX6_add_41 : decode cX6_add 41 = .ok (.getfield 9, 3) := by decide +kernel
theorem dX6_add_44 : decode cX6_add 44 = .ok (.iconst 1, 1) := by decide +kernel
theorem dX6_add_45 : decode cX6_add 45 = .ok (.iadd, 1) := by decide +kernel
theorem dX6_add_46 : decode cX6_add 46 = .ok (.putfield 9, 3) := by decide +kernel
theorem dX6_add_49 : decode cX6_add 49 = .ok (.return_, 1) := by decide +kernel
set_option maxRecDepth 20000 in
theorem ggX6_dropLast_X4_read : GoodIn wsX6_dropLast wsX4_read := goodIn_r _ [9, 10, 20] (by decide +kernel) (by decide +kernel)
set_option maxRecDepth 20000 in
theorem gX6_dropLast_X4_read : GoodIn wsX6_dropLast (wsV RX6 38 RX4 yX4_read wsX4_read) := goodIn_app (goodIn_of _ (by decide +kernel)) ggX6_dropLast_X4_read
set_option maxRecDepth 20000 in
theorem ggX6_dropLast_X4_write : GoodIn wsX6_dropLast wsX4_write := goodIn_r _ [14, 10, 20] (by decide +kernel) (by decide +kernel)
set_option maxRecDepth 20000 in
theorem gX6_dropLast_X4_write : GoodIn wsX6_dropLast (wsV RX6 34 RX4 yX4_write wsX4_write) := goodIn_app (goodIn_of _ (by decide +kernel)) ggX6_dropLast_X4_write
theorem dX6_dropLast_0 : decode cX6_dropLast 0 = .ok (.aload_n 0, 1) := by decide +kernel
theorem dX6_dropLast_1 : decode cX6_dropLast 1 = .ok (.dup, 1) := by decide +kernel
theorem dX6_dropLast_2 : decode cX6_dropLast 2 = .ok (.getfield 9, 3) := by decide +kernel
theorem dX6_dropLast_5 : decode cX6_dropLast 5 = .ok (.iconst 1, 1) := by decide +kernel
theorem dX6_dropLast_6 : decode cX6_dropLast 6 = .ok (.isub, 1) := by decide +kernel
theorem dX6_dropLast_7 : decode cX6_dropLast 7 = .ok (.putfield 9, 3) := by decide +kernel
theorem dX6_dropLast_10 : decode cX6_dropLast 10 = .ok (.iload_n 1, 1) := by decide +kernel
theorem dX6_dropLast_11 : decode cX6_dropLast 11 = .ok (.istore_n 2, 1) := by decide +kernel
theorem dX6_dropLast_12 : decode cX6_dropLast 12 = .ok (.iload_n 2, 1) := by decide +kernel
theorem dX6_dropLast_13 : decode cX6_dropLast 13 = .ok (.aload_n 0, 1) := by decide +kernel
theorem dX6_dropLast_14 : decode cX6_dropLast 14 = .ok (.getfield 9, 3) := by decide +kernel
theorem dX6_dropLast_17 : decode cX6_dropLast 17 = .ok (.if_icmp .ge 45, 3) := by decide +kernel
theorem dX6_dropLast_20 : decode cX6_dropLast 20 = .ok (.aload_n 0, 1) := by decide +kernel
theorem dX6_dropLast_21 : decode cX6_dropLast 21 = .ok (.getfield 20, 3) := by decide +kernel
theorem dX6_dropLast_24 : decode cX6_dropLast 24 = .ok (.iload_n 2, 1) := by decide +kernel
theorem dX6_dropLast_25 : decode cX6_dropLast 25 = .ok (.aload_n 0, 1) := by decide +kernel
theorem dX6_dropLast_26 : decode cX6_dropLast 26 = .ok (.getfield 20, 3) := by decide +kernel
theorem dX6_dropLast_29 : decode cX6_dropLast 29 = .ok (.iload_n 2, 1) := by decide +kernel
theorem dX6_dropLast_30 : decode cX6_dropLast 30 = .ok (.iconst 1, 1) := by decide +kernel
theorem dX6_dropLast_31 : decode cX6_dropLast 31 = .ok (.iadd, 1) := by decide +kernel
theorem dX6_dropLast_32 : decode cX6_dropLast 32 = .ok (.invokevirtual 38, 3) := by decide +kernel
theorem dX6_dropLast_35 : decode cX6_dropLast 35 = .ok (.invokevirtual 34, 3) := by decide +kernel
theorem dX6_dropLast_38 : decode cX6_dropLast 38 = .ok (.aload_n 0, 1) := by decide +kernel
theorem dX6_dropLast_39 : decode cX6_dropLast 39 = .ok (.getfield 24, 3) := by decide +kernel
theorem dX6_dropLast_42 : decode cX6_dropLast 42 = .ok (.iload_n 2, 1) := by decide +kernel
theorem dX6_dropLast_43 : decode cX6_dropLast 43 = .ok (.aload_n 0, 1) := by decide +kernel
theorem dX6_dropLast_44 : decode cX6_dropLast 44 = .ok (.getfield 24, 3) := by decide +kernel
theorem dX6_dropLast_47 : decode cX6_dropLast 47 = .ok (.iload_n 2, 1) := by decide +kernel
theorem dX6_dropLast_48 : decode cX6_dropLast 48 = .ok (.iconst 1, 1) := by decide +kernel
theorem dX6_dropLast_49 : decode cX6_dropLast 49 = .ok (.iadd, 1) := by decide +kernel
theorem dX6_dropLast_50 : decode cX6_dropLast 50 = .ok (.invokevirtual 38, 3) := by decide +kernel
theorem dX6_dropLast_53 : decode cX6_dropLast 53 = .ok (.invokevirtual 34, 3) := by decide +kernel
theorem dX6_dropLast_56 : decode cX6_dropLast 56 = .ok (.iinc 2 1, 3) := by decide +kernel
theorem dX6_dropLast_59 : decode cX6_dropLast 59 = .ok (.goto (-47), 3) := by decide +kernel
theorem dX6_dropLast_62 : decode cX6_dropLast 62 = .ok (.iconst 0, 1) := by decide +kernel
theorem dX6_dropLast_63 : decode cX6_dropLast 63 = .ok (.istore_n 2, 1) := by decide +kernel
theorem dX6_dropLast_64 : decode cX6_dropLast 64 = .ok (.iload_n 2, 1) := by decide +kernel
theorem dX6_dropLast_65 : decode cX6_dropLast 65 = .ok (.aload_n 0, 1) := by decide +kernel
theorem dX6_dropLast_66 : decode cX6_dropLast 66 = .ok (.getfield 9, 3) := by decide +kernel
theorem dX6_dropLast_69 : decode cX6_dropLast 69 = .ok (.if_icmp .ge 38, 3) := by decide +kernel
theorem dX6_dropLast_72 : decode cX6_dropLast 72 = .ok (.aload_n 0, 1) := by decide +kernel
theorem dX6_dropLast_73 : decode cX6_dropLast 73 = .ok (.getfield 27, 3) := by decide +kernel
theorem dX6_dropLast_76 : decode cX6_dropLast 76 = .ok (.iload_n 2, 1) := by decide +kernel
theorem dX6_dropLast_77 : decode cX6_dropLast 77 = .ok (.invokevirtual 38, 3) := by decide +kernel
theorem dX6_dropLast_80 : decode cX6_dropLast 80 = .ok (.istore_n 3, 1) := by decide +kernel
theorem dX6_dropLast_81 : decode cX6_dropLast 81 = .ok (.aload_n 0, 1) := by decide +kernel
theorem dX6_dropLast_82 : decode cX6_dropLast 82 = .ok (.getfield 27, 3) := by decide +kernel
theorem dX6_dropLast_85 : decode cX6_dropLast 85 = .ok (.iload_n 2, 1) := by decide +kernel
theorem dX6_dropLast_86 : decode cX6_dropLast 86 = .ok (.iload_n 3, 1) := by decide +kernel
theorem dX6_dropLast_87 : decode cX6_dropLast 87 = .ok (.iload_n 1, 1) := by decide +kernel
theorem dX6_dropLast_88 : decode cX6_dropLast 88 = .ok (.if_icmp .le 9, 3) := by decide +kernel
theorem dX6_dropLast_91 : decode cX6_dropLast 91 = .ok (.iload_n 3, 1) := by decide +kernel
theorem dX6_dropLast_92 : decode cX6_dropLast 92 = .ok (.iconst 1, 1) := by decide +kernel
theorem dX6_dropLast_93 : decode cX6_dropLast 93 = .ok (.isub, 1) := by decide +kernel
theorem dX6_dropLast_94 : decode cX6_dropLast 94 = .ok (.goto 4, 3) := by decide +kernel
theorem dX6_dropLast_97 : decode cX6_dropLast 97 = .ok (.iload_n 3, 1) := by decide +kernel
theorem dX6_dropLast_98 : decode cX6_dropLast 98 = .ok (.invokevirtual 34, 3) := by decide +kernel
theorem dX6_dropLast_101 : decode cX6_dropLast 101 = .ok (.iinc 2 1, 3) := by decide +kernel
theorem dX6_dropLast_104 : decode cX6_dropLast 104 = .ok (.goto (-40), 3) := by decide +kernel
theorem dX6_dropLast_107 : decode cX6_dropLast 107 = .ok (.return_, 1) := by decide +kernel
set_option maxRecDepth 20000 in
theorem ggX6_placeOf_X4_read : GoodIn wsX6_placeOf wsX4_read := goodIn_r _ [7, 8, 14] (by decide +kernel) (by decide +kernel)
set_option maxRecDepth 20000 in
theorem gX6_placeOf_X4_read : GoodIn wsX6_placeOf (wsV RX6 38 RX4 yX4_read wsX4_read) := goodIn_app (goodIn_of _ (by decide +kernel)) ggX6_placeOf_X4_read
theorem dX6_placeOf_0 : decode cX6_placeOf 0 = .ok (.iconst 0, 1) := by decide +kernel
theorem dX6_placeOf_1 : decode cX6_placeOf 1 = .ok (.istore_n 2, 1) := by decide +kernel
theorem dX6_placeOf_2 : decode cX6_placeOf 2 = .ok (.iload_n 2, 1) := by decide +kernel
theorem dX6_placeOf_3 : decode cX6_placeOf 3 = .ok (.aload_n 0, 1) := by decide +kernel
theorem dX6_placeOf_4 : decode cX6_placeOf 4 = .ok (.getfield 9, 3) := by decide +kernel
theorem dX6_placeOf_7 : decode cX6_placeOf 7 = .ok (.if_icmp .ge 23, 3) := by decide +kernel
theorem dX6_placeOf_10 : decode cX6_placeOf 10 = .ok (.aload_n 0, 1) := by decide +kernel
theorem dX6_placeOf_11 : decode cX6_placeOf 11 = .ok (.getfield 27, 3) := by decide +kernel
theorem dX6_placeOf_14 : decode cX6_placeOf 14 = .ok (.iload_n 2, 1) := by decide +kernel
theorem dX6_placeOf_15 : decode cX6_placeOf 15 = .ok (.invokevirtual 38, 3) := by decide +kernel
theorem dX6_placeOf_18 : decode cX6_placeOf 18 = .ok (.iload_n 1, 1) := by decide +kernel
theorem dX6_placeOf_19 : decode cX6_placeOf 19 = .ok (.if_icmp .ne 5, 3) := by decide +kernel
theorem dX6_placeOf_22 : decode cX6_placeOf 22 = .ok (.iload_n 2, 1) := by decide +kernel
theorem dX6_placeOf_23 : decode cX6_placeOf 23 = .ok (.ireturn, 1) := by decide +kernel
theorem dX6_placeOf_24 : decode cX6_placeOf 24 = .ok (.iinc 2 1, 3) := by decide +kernel
theorem dX6_placeOf_27 : decode cX6_placeOf 27 = .ok (.goto (-25), 3) := by decide +kernel
theorem dX6_placeOf_30 : decode cX6_placeOf 30 = .ok (.iconst (-1), 1) := by decide +kernel
theorem dX6_placeOf_31 : decode cX6_placeOf 31 = .ok (.ireturn, 1) := by decide +kernel
set_option maxRecDepth 20000 in
theorem ggX6_gapOf_X4_read : GoodIn wsX6_gapOf wsX4_read := goodIn_r _ [7, 8, 30] (by decide +kernel) (by decide +kernel)
set_option maxRecDepth 20000 in
theorem gX6_gapOf_X4_read : GoodIn wsX6_gapOf (wsV RX6 38 RX4 yX4_read wsX4_read) := goodIn_app (goodIn_of _ (by decide +kernel)) ggX6_gapOf_X4_read
set_option maxRecDepth 20000 in
theorem ggX6_gapOf_X1_gap : GoodIn wsX6_gapOf wsX1_gap := goodIn_r _ [13, 14, 15, 16, 17, 18, 19, 20, 21, 22, 23, 24, 4, 5, 6, 7, 8, 31, 32, 33, 34, 35, 36, 30] (by decide +kernel) (by decide +kernel)
set_option maxRecDepth 20000 in
theorem gX6_gapOf_X1_gap : GoodIn wsX6_gapOf (wsV RX6 42 RX1 yX1_gap wsX1_gap) := goodIn_app (goodIn_of _ (by decide +kernel)) ggX6_gapOf_X1_gap
theorem dX6_gapOf_0 : decode cX6_gapOf 0 = .ok (.aload_n 0, 1) := by decide +kernel
theorem dX6_gapOf_1 : decode cX6_gapOf 1 = .ok (.getfield 30, 3) := by decide +kernel
theorem dX6_gapOf_4 : decode cX6_gapOf 4 = .ok (.aload_n 0, 1) := by decide +kernel
theorem dX6_gapOf_5 : decode cX6_gapOf 5 = .ok (.getfield 20, 3) := by decide +kernel
theorem dX6_gapOf_8 : decode cX6_gapOf 8 = .ok (.iload_n 1, 1) := by decide +kernel
theorem dX6_gapOf_9 : decode cX6_gapOf 9 = .ok (.invokevirtual 38, 3) := by decide +kernel
theorem dX6_gapOf_12 : decode cX6_gapOf 12 = .ok (.aload_n 0, 1) := by decide +kernel
theorem dX6_gapOf_13 : decode cX6_gapOf 13 = .ok (.getfield 20, 3) := by decide +kernel
theorem dX6_gapOf_16 : decode cX6_gapOf 16 = .ok (.iload_n 2, 1) := by decide +kernel
theorem dX6_gapOf_17 : decode cX6_gapOf 17 = .ok (.invokevirtual 38, 3) := by decide +kernel
theorem dX6_gapOf_20 : decode cX6_gapOf 20 = .ok (.invokevirtual 42, 3) := by decide +kernel
theorem dX6_gapOf_23 : decode cX6_gapOf 23 = .ok (.ireturn, 1) := by decide +kernel
set_option maxRecDepth 20000 in
theorem ggX6_gapAhead_X4_read : GoodIn wsX6_gapAhead wsX4_read := goodIn_r _ [6, 7, 36] (by decide +kernel) (by decide +kernel)
set_option maxRecDepth 20000 in
theorem gX6_gapAhead_X4_read : GoodIn wsX6_gapAhead (wsV RX6 38 RX4 yX4_read wsX4_read) := goodIn_app (goodIn_of _ (by decide +kernel)) ggX6_gapAhead_X4_read
set_option maxRecDepth 20000 in
theorem ggX6_gapAhead_X6_gapOf : GoodIn wsX6_gapAhead wsX6_gapOf := goodIn_r _ [12, 13, 14, 2, 3, 4, 5, 6, 7, 15, 16, 17, 18, 19, 20, 21, 22, 23, 24, 25, 26, 27, 28, 29, 30, 31, 32, 33, 34, 35, 36, 37, 38, 39, 40, 41, 42] (by decide +kernel) (by decide +kernel)
set_option maxRecDepth 20000 in
theorem gX6_gapAhead_X6_gapOf : GoodIn wsX6_gapAhead (wsV RX6 48 RX6 yX6_gapOf wsX6_gapOf) := goodIn_app (goodIn_of _ (by decide +kernel)) ggX6_gapAhead_X6_gapOf
theorem dX6_gapAhead_0 : decode cX6_gapAhead 0 = .ok (.iload_n 1, 1) := by decide +kernel
theorem dX6_gapAhead_1 : decode cX6_gapAhead 1 = .ok (.ifCond .le 28, 3) := by decide +kernel
theorem dX6_gapAhead_4 : decode cX6_gapAhead 4 = .ok (.aload_n 0, 1) := by decide +kernel
theorem dX6_gapAhead_5 : decode cX6_gapAhead 5 = .ok (.aload_n 0, 1) := by decide +kernel
theorem dX6_gapAhead_6 : decode cX6_gapAhead 6 = .ok (.getfield 27, 3) := by decide +kernel
theorem dX6_gapAhead_9 : decode cX6_gapAhead 9 = .ok (.iload_n 1, 1) := by decide +kernel
theorem dX6_gapAhead_10 : decode cX6_gapAhead 10 = .ok (.iconst 1, 1) := by decide +kernel
theorem dX6_gapAhead_11 : decode cX6_gapAhead 11 = .ok (.isub, 1) := by decide +kernel
theorem dX6_gapAhead_12 : decode cX6_gapAhead 12 = .ok (.invokevirtual 38, 3) := by decide +kernel
theorem dX6_gapAhead_15 : decode cX6_gapAhead 15 = .ok (.aload_n 0, 1) := by decide +kernel
theorem dX6_gapAhead_16 : decode cX6_gapAhead 16 = .ok (.getfield 27, 3) := by decide +kernel
theorem dX6_gapAhead_19 : decode cX6_gapAhead 19 = .ok (.iload_n 1, 1) := by decide +kernel
theorem dX6_gapAhead_20 : decode cX6_gapAhead 20 = .ok (.invokevirtual 38, 3) := by decide +kernel
theorem dX6_gapAhead_23 : decode cX6_gapAhead 23 = .ok (.invokevirtual 48, 3) := by decide +kernel
theorem dX6_gapAhead_26 : decode cX6_gapAhead 26 = .ok (.goto 4, 3) := by decide +kernel
theorem dX6_gapAhead_29 : decode cX6_gapAhead 29 = .ok (.iconst 0, 1) := by decide +kernel
theorem dX6_gapAhead_30 : decode cX6_gapAhead 30 = .ok (.ireturn, 1) := by decide +kernel
set_option maxRecDepth 20000 in
theorem ggX6_gapsInOrder_X6_gapAhead : GoodIn wsX6_gapsInOrder wsX6_gapAhead := goodIn_r _ [6, 7, 8, 9, 10, 11, 12, 13, 14, 15, 16, 5, 17, 18, 19, 20, 21, 22, 23, 24, 25, 26, 27, 28, 29, 30, 31, 32, 33, 34, 35, 36, 37, 38, 39, 40, 41, 42, 43, 44, 45, 46, 47] (by decide +kernel) (by decide +kernel)
set_option maxRecDepth 20000 in
theorem gX6_gapsInOrder_X6_gapAhead : GoodIn wsX6_gapsInOrder (wsV RX6 51 RX6 yX6_gapAhead wsX6_gapAhead) := goodIn_app (goodIn_of _ (by decide +kernel)) ggX6_gapsInOrder_X6_gapAhead
theorem dX6_gapsInOrder_0 : decode cX6_gapsInOrder 0 = .ok (.iconst 0, 1) := by decide +kernel
theorem dX6_gapsInOrder_1 : decode cX6_gapsInOrder 1 = .ok (.istore_n 1, 1) := by decide +kernel
theorem dX6_gapsInOrder_2 : decode cX6_gapsInOrder 2 = .ok (.iconst 1, 1) := by decide +kernel
theorem dX6_gapsInOrder_3 : decode cX6_gapsInOrder 3 = .ok (.istore_n 2, 1) := by decide +kernel
theorem dX6_gapsInOrder_4 : decode cX6_gapsInOrder 4 = .ok (.iload_n 2, 1) := by decide +kernel
theorem dX6_gapsInOrder_5 : decode cX6_gapsInOrder 5 = .ok (.aload_n 0, 1) := by decide +kernel
theorem dX6_gapsInOrder_6 : decode cX6_gapsInOrder 6 = .ok (.getfield 9, 3) := by decide +kernel
theorem dX6_gapsInOrder_9 : decode cX6_gapsInOrder 9 = .ok (.if_icmp .ge 17, 3) := by decide +kernel
theorem dX6_gapsInOrder_12 : decode cX6_gapsInOrder 12 = .ok (.iload_n 1, 1) := by decide +kernel
theorem dX6_gapsInOrder_13 : decode cX6_gapsInOrder 13 = .ok (.aload_n 0, 1) := by decide +kernel
theorem dX6_gapsInOrder_14 : decode cX6_gapsInOrder 14 = .ok (.iload_n 2, 1) := by decide +kernel
theorem dX6_gapsInOrder_15 : decode cX6_gapsInOrder 15 = .ok (.invokevirtual 51, 3) := by decide +kernel
theorem dX6_gapsInOrder_18 : decode cX6_gapsInOrder 18 = .ok (.iadd, 1) := by decide +kernel
theorem dX6_gapsInOrder_19 : decode cX6_gapsInOrder 19 = .ok (.istore_n 1, 1) := by decide +kernel
theorem dX6_gapsInOrder_20 : decode cX6_gapsInOrder 20 = .ok (.iinc 2 1, 3) := by decide +kernel
theorem dX6_gapsInOrder_23 : decode cX6_gapsInOrder 23 = .ok (.goto (-19), 3) := by decide +kernel
theorem dX6_gapsInOrder_26 : decode cX6_gapsInOrder 26 = .ok (.iload_n 1, 1) := by decide +kernel
theorem dX6_gapsInOrder_27 : decode cX6_gapsInOrder 27 = .ok (.ireturn, 1) := by decide +kernel
set_option maxRecDepth 20000 in
theorem ggX6_orderByNext_X4_read : GoodIn wsX6_orderByNext wsX4_read := goodIn_r _ [7, 8, 45] (by decide +kernel) (by decide +kernel)
set_option maxRecDepth 20000 in
theorem gX6_orderByNext_X4_read : GoodIn wsX6_orderByNext (wsV RX6 38 RX4 yX4_read wsX4_read) := goodIn_app (goodIn_of _ (by decide +kernel)) ggX6_orderByNext_X4_read
set_option maxRecDepth 20000 in
theorem ggX6_orderByNext_X6_nextOf : GoodIn wsX6_orderByNext wsX6_nextOf := goodIn_r _ [13, 1, 14, 15, 16, 12, 17, 18, 19, 3, 4, 5, 6, 7, 8, 20, 21, 22, 23, 24, 25, 26, 27, 28, 29, 30, 31, 32, 33, 34, 35, 40, 41, 42, 43, 44, 45, 46, 47, 48, 49, 50, 51] (by decide +kernel) (by decide +kernel)
set_option maxRecDepth 20000 in
theorem gX6_orderByNext_X6_nextOf : GoodIn wsX6_orderByNext (wsV RX6 54 RX6 yX6_nextOf wsX6_nextOf) := goodIn_app (goodIn_of _ (by decide +kernel)) ggX6_orderByNext_X6_nextOf
set_option maxRecDepth 20000 in
theorem ggX6_orderByNext_X4_write : GoodIn wsX6_orderByNext wsX4_write := goodIn_r _ [39, 8, 45] (by decide +kernel) (by decide +kernel)
set_option maxRecDepth 20000 in
theorem gX6_orderByNext_X4_write : GoodIn wsX6_orderByNext (wsV RX6 34 RX4 yX4_write wsX4_write) := goodIn_app (goodIn_of _ (by decide +kernel)) ggX6_orderByNext_X4_write
theorem dX6_orderByNext_0 : decode cX6_orderByNext 0 = .ok (.iconst 1, 1) := by decide +kernel
theorem dX6_orderByNext_1 : decode cX6_orderByNext 1 = .ok (.aload_n 0, 1) := by decide +kernel
theorem dX6_orderByNext_2 : decode cX6_orderByNext 2 = .ok (.getfield 9, 3) := by decide +kernel
theorem dX6_orderByNext_5 : decode cX6_orderByNext 5 = .ok (.ishl, 1) := by decide +kernel
theorem dX6_orderByNext_6 : decode cX6_orderByNext 6 = .ok (.iconst 1, 1) := by decide +kernel
theorem dX6_orderByNext_7 : decode cX6_orderByNext 7 = .ok (.isub, 1) := by decide +kernel
theorem dX6_orderByNext_8 : decode cX6_orderByNext 8 = .ok (.istore_n 1, 1) := by decide +kernel
theorem dX6_orderByNext_9 : decode cX6_orderByNext 9 = .ok (.iconst 0, 1) := by decide +kernel
theorem dX6_orderByNext_10 : decode cX6_orderByNext 10 = .ok (.istore_n 2, 1) := by decide +kernel
theorem dX6_orderByNext_11 : decode cX6_orderByNext 11 = .ok (.iload_n 2, 1) := by decide +kernel
theorem dX6_orderByNext_12 : decode cX6_orderByNext 12 = .ok (.aload_n 0, 1) := by decide +kernel
theorem dX6_orderByNext_13 : decode cX6_orderByNext 13 = .ok (.getfield 9, 3) := by decide +kernel
theorem dX6_orderByNext_16 : decode cX6_orderByNext 16 = .ok (.if_icmp .ge 57, 3) := by decide +kernel
theorem dX6_orderByNext_19 : decode cX6_orderByNext 19 = .ok (.iload_n 2, 1) := by decide +kernel
theorem dX6_orderByNext_20 : decode cX6_orderByNext 20 = .ok (.ifCond .ne 14, 3) := by decide +kernel
theorem dX6_orderByNext_23 : decode cX6_orderByNext 23 = .ok (.aload_n 0, 1) := by decide +kernel
theorem dX6_orderByNext_24 : decode cX6_orderByNext 24 = .ok (.getfield 27, 3) := by decide +kernel
theorem dX6_orderByNext_27 : decode cX6_orderByNext 27 = .ok (.iconst 0, 1) := by decide +kernel
theorem dX6_orderByNext_28 : decode cX6_orderByNext 28 = .ok (.invokevirtual 38, 3) := by decide +kernel
theorem dX6_orderByNext_31 : decode cX6_orderByNext 31 = .ok (.goto 18, 3) := by decide +kernel
theorem dX6_orderByNext_34 : decode cX6_orderByNext 34 = .ok (.aload_n 0, 1) := by decide +kernel
theorem dX6_orderByNext_35 : decode cX6_orderByNext 35 = .ok (.iload_n 1, 1) := by decide +kernel
theorem dX6_orderByNext_36 : decode cX6_orderByNext 36 = .ok (.aload_n 0, 1) := by decide +kernel
theorem dX6_orderByNext_37 : decode cX6_orderByNext 37 = .ok (.getfield 27, 3) := by decide +kernel
theorem dX6_orderByNext_40 : decode cX6_orderByNext 40 = .ok (.iload_n 2, 1) := by decide +kernel
theorem dX6_orderByNext_41 : decode cX6_orderByNext 41 = .ok (.iconst 1, 1) := by decide +kernel
theorem dX6_orderByNext_42 : decode cX6_orderByNext 42 = .ok (.isub, 1) := by decide +kernel
theorem dX6_orderByNext_43 : decode cX6_orderByNext 43 = .ok (.invokevirtual 38, 3) := by decide +kernel
theorem dX6_orderByNext_46 : decode cX6_orderByNext 46 = .ok (.invokevirtual 54, 3) := by decide +kernel
theorem dX6_orderByNext_49 : decode cX6_orderByNext 49 = .ok (.istore_n 3, 1) := by decide +kernel
theorem dX6_orderByNext_50 : decode cX6_orderByNext 50 = .ok (.aload_n 0, 1) := by decide +kernel
theorem dX6_orderByNext_51 : decode cX6_orderByNext 51 = .ok (.getfield 27, 3) := by decide +kernel
theorem dX6_orderByNext_54 : decode cX6_orderByNext 54 = .ok (.iload_n 2, 1) := by decide +kernel
theorem dX6_orderByNext_55 : decode cX6_orderByNext 55 = .ok (.iload_n 3, 1) := by decide +kernel
theorem dX6_orderByNext_56 : decode cX6_orderByNext 56 = .ok (.invokevirtual 34, 3) := by decide +kernel
theorem dX6_orderByNext_59 : decode cX6_orderByNext 59 = .ok (.iload_n 1, 1) := by decide +kernel
theorem dX6_orderByNext_60 : decode cX6_orderByNext 60 = .ok (.iconst 1, 1) := by decide +kernel
theorem dX6_orderByNext_61 : decode cX6_orderByNext 61 = .ok (.iload_n 3, 1) := by decide +kernel
theorem dX6_orderByNext_62 : decode cX6_orderByNext 62 = .ok (.ishl, 1) := by decide +kernel
theorem dX6_orderByNext_63 : decode cX6_orderByNext 63 = .ok (.iconst (-1), 1) := by decide +kernel
theorem dX6_orderByNext_64 : decode cX6_orderByNext 64 = .ok (.ixor, 1) := by decide +kernel
theorem dX6_orderByNext_65 : decode cX6_orderByNext 65 = .ok (.iand, 1) := by decide +kernel
theorem dX6_orderByNext_66 : decode cX6_orderByNext 66 = .ok (.istore_n 1, 1) := by decide +kernel
theorem dX6_orderByNext_67 : decode cX6_orderByNext 67 = .ok (.iinc 2 1, 3) := by decide +kernel
theorem dX6_orderByNext_70 : decode cX6_orderByNext 70 = .ok (.goto (-59), 3) := by decide +kernel
theorem dX6_orderByNext_73 : decode cX6_orderByNext 73 = .ok (.return_, 1) := by decide +kernel
set_option maxRecDepth 20000 in
theorem ggX6_nextOf_X6_gapOf : GoodIn wsX6_nextOf wsX6_gapOf := goodIn_r _ [6, 7, 8, 9, 10, 11, 12, 13, 14, 15, 16, 17, 18, 19, 20, 21, 22, 23, 24, 25, 26, 27, 28, 29, 30, 31, 32, 33, 34, 35, 36, 37, 38, 39, 40, 41, 42] (by decide +kernel) (by decide +kernel)
set_option maxRecDepth 20000 in
theorem gX6_nextOf_X6_gapOf : GoodIn wsX6_nextOf (wsV RX6 48 RX6 yX6_gapOf wsX6_gapOf) := goodIn_app (goodIn_of _ (by decide +kernel)) ggX6_nextOf_X6_gapOf
theorem dX6_nextOf_0 : decode cX6_nextOf 0 = .ok (.iconst (-1), 1) := by decide +kernel
theorem dX6_nextOf_1 : decode cX6_nextOf 1 = .ok (.istore_n 3, 1) := by decide +kernel
theorem dX6_nextOf_2 : decode cX6_nextOf 2 = .ok (.iconst 0, 1) := by decide +kernel
theorem dX6_nextOf_3 : decode cX6_nextOf 3 = .ok (.istore 4, 2) := by decide +kernel
theorem dX6_nextOf_5 : decode cX6_nextOf 5 = .ok (.iload 4, 2) := by decide +kernel
theorem dX6_nextOf_7 : decode cX6_nextOf 7 = .ok (.aload_n 0, 1) := by decide +kernel
theorem dX6_nextOf_8 : decode cX6_nextOf 8 = .ok (.getfield 9, 3) := by decide +kernel
theorem dX6_nextOf_11 : decode cX6_nextOf 11 = .ok (.if_icmp .ge 55, 3) := by decide +kernel
theorem dX6_nextOf_14 : decode cX6_nextOf 14 = .ok (.iload_n 1, 1) := by decide +kernel
theorem dX6_nextOf_15 : decode cX6_nextOf 15 = .ok (.iload 4, 2) := by decide +kernel
theorem dX6_nextOf_17 : decode cX6_nextOf 17 = .ok (.ishr, 1) := by decide +kernel
theorem dX6_nextOf_18 : decode cX6_nextOf 18 = .ok (.iconst 1, 1) := by decide +kernel
theorem dX6_nextOf_19 : decode cX6_nextOf 19 = .ok (.iand, 1) := by decide +kernel
theorem dX6_nextOf_20 : decode cX6_nextOf 20 = .ok (.iconst 1, 1) := by decide +kernel
theorem dX6_nextOf_21 : decode cX6_nextOf 21 = .ok (.if_icmp .ne 7, 3) := by decide +kernel
theorem dX6_nextOf_24 : decode cX6_nextOf 24 = .ok (.iconst 1, 1) := by decide +kernel
theorem dX6_nextOf_25 : decode cX6_nextOf 25 = .ok (.goto 4, 3) := by decide +kernel
theorem dX6_nextOf_28 : decode cX6_nextOf 28 = .ok (.iconst 0, 1) := by decide +kernel
theorem dX6_nextOf_29 : decode cX6_nextOf 29 = .ok (.istore 5, 2) := by decide +kernel
theorem dX6_nextOf_31 : decode cX6_nextOf 31 = .ok (.iload 5, 2) := by decide +kernel
theorem dX6_nextOf_33 : decode cX6_nextOf 33 = .ok (.ifCond .eq 27, 3) := by decide +kernel
theorem dX6_nextOf_36 : decode cX6_nextOf 36 = .ok (.iload_n 3, 1) := by decide +kernel
theorem dX6_nextOf_37 : decode cX6_nextOf 37 = .ok (.iconst (-1), 1) := by decide +kernel
theorem dX6_nextOf_38 : decode cX6_nextOf 38 = .ok (.if_icmp .eq 19, 3) := by decide +kernel
theorem dX6_nextOf_41 : decode cX6_nextOf 41 = .ok (.aload_n 0, 1) := by decide +kernel
theorem dX6_nextOf_42 : decode cX6_nextOf 42 = .ok (.iload_n 2, 1) := by decide +kernel
theorem dX6_nextOf_43 : decode cX6_nextOf 43 = .ok (.iload 4, 2) := by decide +kernel
theorem dX6_nextOf_45 : decode cX6_nextOf 45 = .ok (.invokevirtual 48, 3) := by decide +kernel
theorem dX6_nextOf_48 : decode cX6_nextOf 48 = .ok (.aload_n 0, 1) := by decide +kernel
theorem dX6_nextOf_49 : decode cX6_nextOf 49 = .ok (.iload_n 2, 1) := by decide +kernel
theorem dX6_nextOf_50 : decode cX6_nextOf 50 = .ok (.iload_n 3, 1) := by decide +kernel
theorem dX6_nextOf_51 : decode cX6_nextOf 51 = .ok (.invokevirtual 48, 3) := by decide +kernel
theorem dX6_nextOf_54 : decode cX6_nextOf 54 = .ok (.if_icmp .ge 6, 3) := by decide +kernel
theorem dX6_nextOf_57 : decode cX6_nextOf 57 = .ok (.iload 4, 2) := by decide +kernel
theorem dX6_nextOf_59 : decode cX6_nextOf 59 = .ok (.istore_n 3, 1) := by decide +kernel
theorem dX6_nextOf_60 : decode cX6_nextOf 60 = .ok (.iinc 4 1, 3) := by decide +kernel
theorem dX6_nextOf_63 : decode cX6_nextOf 63 = .ok (.goto (-58), 3) := by decide +kernel
theorem dX6_nextOf_66 : decode cX6_nextOf 66 = .ok (.iload_n 3, 1) := by decide +kernel
theorem dX6_nextOf_67 : decode cX6_nextOf 67 = .ok (.ireturn, 1) := by decide +kernel
set_option maxRecDepth 20000 in
theorem ggX7_init_X1_init : GoodIn wsX7_init wsX1_init := goodIn_r _ [30, 31, 2, 3, 32, 33, 34, 35, 36, 37, 38, 39, 40, 41, 42, 43, 44, 45, 46, 114, 115, 116, 117, 118, 119, 161] (by decide +kernel) (by decide +kernel)
set_option maxRecDepth 20000 in
theorem gX7_init_X1_init_n11 : GoodIn wsX7_init (wsX1_init) := ggX7_init_X1_init
set_option maxRecDepth 20000 in
theorem ggX7_init_X2_init : GoodIn wsX7_init wsX2_init := goodIn_r _ [48, 49, 2, 3, 50, 51, 34, 35, 52, 53, 54, 55, 56, 57, 58, 42, 43, 44, 45, 46, 127, 128, 129, 130, 131, 132, 133, 161] (by decide +kernel) (by decide +kernel)
set_option maxRecDepth 20000 in
theorem gX7_init_X2_init_n18 : GoodIn wsX7_init (wsX2_init) := ggX7_init_X2_init
set_option maxRecDepth 20000 in
theorem ggX7_init_X6_init : GoodIn wsX7_init wsX6_init := goodIn_r _ [61, 62, 2, 3, 63, 64, 34, 35, 65, 66, 67, 68, 69, 42, 43, 44, 45, 46, 134, 135, 136, 137, 138, 161] (by decide +kernel) (by decide +kernel)
set_option maxRecDepth 20000 in
theorem gX7_init_X6_init : GoodIn wsX7_init (wsX6_init) := ggX7_init_X6_init
set_option maxRecDepth 20000 in
theorem ggX7_init_X3_init : GoodIn wsX7_init wsX3_init := goodIn_r _ [72, 73, 2, 3, 74, 34, 35, 75, 76, 77, 78, 42, 43, 44, 45, 46, 161, 139, 140, 141] (by decide +kernel) (by decide +kernel)
set_option maxRecDepth 20000 in
theorem gX7_init_X3_init : GoodIn wsX7_init (wsX3_init) := ggX7_init_X3_init
set_option maxRecDepth 20000 in
theorem ggX7_init_X0_init : GoodIn wsX7_init wsX0_init := goodIn_r _ [81, 82, 2, 3, 83, 84, 85, 86, 87, 88, 89, 90, 34, 35, 91, 92, 93, 94, 95, 96, 97, 98, 99, 100, 42, 43, 44, 45, 46, 142, 143, 144, 145, 146, 147, 148, 149, 150, 151, 152, 153, 154, 155, 156, 157, 161] (by decide +kernel) (by decide +kernel)
set_option maxRecDepth 20000 in
theorem gX7_init_X0_init : GoodIn wsX7_init (wsX0_init) := ggX7_init_X0_init
set_option maxRecDepth 20000 in
theorem ggX7_init_X5_init : GoodIn wsX7_init wsX5_init := goodIn_r _ [103, 104, 2, 3, 105, 34, 35, 106, 107, 108, 109, 42, 43, 44, 45, 46, 110, 111, 112, 113, 161, 158, 159, 160] (by decide +kernel) (by decide +kernel)
set_option maxRecDepth 20000 in
theorem gX7_init_X5_init : GoodIn wsX7_init (wsX5_init) := ggX7_init_X5_init
theorem dX7_init_0 : decode cX7_init 0 = .ok (.aload_n 0, 1) := by decide +kernel
theorem dX7_init_1 : decode cX7_init 1 = .ok (.invokespecial 3, 3) := by decide +kernel
theorem dX7_init_4 : decode cX7_init 4 = .ok (.aload_n 0, 1) := by decide +kernel
theorem dX7_init_5 : decode cX7_init 5 = .ok (.new 9, 3) := by decide +kernel
theorem dX7_init_8 : decode cX7_init 8 = .ok (.dup, 1) := by decide +kernel
theorem dX7_init_9 : decode cX7_init 9 = .ok (.invokespecial 11, 3) := by decide +kernel
theorem dX7_init_12 : decode cX7_init 12 = .ok (.putfield 12, 3) := by decide +kernel
theorem dX7_init_15 : decode cX7_init 15 = .ok (.aload_n 0, 1) := by decide +kernel
theorem dX7_init_16 : decode cX7_init 16 = .ok (.new 16, 3) := by decide +kernel
theorem dX7_init_19 : decode cX7_init 19 = .ok (.dup, 1) := by decide +kernel
theorem dX7_init_20 : decode cX7_init 20 = .ok (.invokespecial 18, 3) := by decide +kernel
theorem dX7_init_23 : decode cX7_init 23 = .ok (.putfield 19, 3) := by decide +kernel
theorem dX7_init_26 : decode cX7_init 26 = .ok (.aload_n 0, 1) := by decide +kernel
theorem dX7_init_27 : decode cX7_init 27 = .ok (.new 23, 3) := by decide +kernel
theorem dX7_init_30 : decode cX7_init 30 = .ok (.dup, 1) := by decide +kernel
theorem dX7_init_31 : decode cX7_init 31 = .ok (.aload_n 0, 1) := by decide +kernel
theorem dX7_init_32 : decode cX7_init 32 = .ok (.getfield 12, 3) := by decide +kernel
theorem dX7_init_35 : decode cX7_init 35 = .ok (.invokespecial 25, 3) := by decide +kernel
theorem dX7_init_38 : decode cX7_init 38 = .ok (.putfield 28, 3) := by decide +kernel
theorem dX7_init_41 : decode cX7_init 41 = .ok (.aload_n 0, 1) := by decide +kernel
theorem dX7_init_42 : decode cX7_init 42 = .ok (.new 32, 3) := by decide +kernel
theorem dX7_init_45 : decode cX7_init 45 = .ok (.dup, 1) := by decide +kernel
theorem dX7_init_46 : decode cX7_init 46 = .ok (.aload_n 0, 1) := by decide +kernel
theorem dX7_init_47 : decode cX7_init 47 = .ok (.getfield 28, 3) := by decide +kernel
theorem dX7_init_50 : decode cX7_init 50 = .ok (.invokespecial 34, 3) := by decide +kernel
theorem dX7_init_53 : decode cX7_init 53 = .ok (.putfield 37, 3) := by decide +kernel
theorem dX7_init_56 : decode cX7_init 56 = .ok (.aload_n 0, 1) := by decide +kernel
theorem dX7_init_57 : decode cX7_init 57 = .ok (.new 41, 3) := by decide +kernel
theorem dX7_init_60 : decode cX7_init 60 = .ok (.dup, 1) := by decide +kernel
theorem dX7_init_61 : decode cX7_init 61 = .ok (.aload_n 0, 1) := by decide +kernel
theorem dX7_init_62 : decode cX7_init 62 = .ok (.getfield 12, 3) := by decide +kernel
theorem dX7_init_65 : decode cX7_init 65 = .ok (.aload_n 0, 1) := by decide +kernel
theorem dX7_init_66 : decode cX7_init 66 = .ok (.getfield 28, 3) := by decide +kernel
theorem dX7_init_69 : decode cX7_init 69 = .ok (.invokespecial 43, 3) := by decide +kernel
theorem dX7_init_72 : decode cX7_init 72 = .ok (.putfield 46, 3) := by decide +kernel
theorem dX7_init_75 : decode cX7_init 75 = .ok (.aload_n 0, 1) := by decide +kernel
theorem dX7_init_76 : decode cX7_init 76 = .ok (.new 50, 3) := by decide +kernel
theorem dX7_init_79 : decode cX7_init 79 = .ok (.dup, 1) := by decide +kernel
theorem dX7_init_80 : decode cX7_init 80 = .ok (.invokespecial 52, 3) := by decide +kernel
theorem dX7_init_83 : decode cX7_init 83 = .ok (.putfield 53, 3) := by decide +kernel
theorem dX7_init_86 : decode cX7_init 86 = .ok (.aload_n 0, 1) := by decide +kernel
theorem dX7_init_87 : decode cX7_init 87 = .ok (.iconst 0, 1) := by decide +kernel
theorem dX7_init_88 : decode cX7_init 88 = .ok (.putfield 57, 3) := by decide +kernel
theorem dX7_init_91 : decode cX7_init 91 = .ok (.return_, 1) := by decide +kernel
set_option maxRecDepth 20000 in
theorem ggX7_kind_X7_within : GoodIn wsX7_kind wsX7_within := goodIn_r _ [5] (by decide +kernel) (by decide +kernel)
set_option maxRecDepth 20000 in
theorem gX7_kind_X7_within : GoodIn wsX7_kind (va_wsS RX7 61 yX7_within wsX7_within) := goodIn_app (goodIn_of _ (by decide +kernel)) ggX7_kind_X7_within
set_option maxRecDepth 20000 in
theorem ggX7_kind_X1_add : GoodIn wsX7_kind wsX1_add := goodIn_r _ [10, 11, 12, 13, 14, 15, 16, 17, 18, 19, 20, 21, 22, 30, 31, 32, 33, 34, 35, 36] (by decide +kernel) (by decide +kernel)
set_option maxRecDepth 20000 in
theorem gX7_kind_X1_add : GoodIn wsX7_kind (wsV RX7 68 RX1 yX1_add wsX1_add) := goodIn_app (goodIn_of _ (by decide +kernel)) ggX7_kind_X1_add
theorem dX7_kind_0 : decode cX7_kind 0 = .ok (.iload_n 1, 1) := by decide +kernel
theorem dX7_kind_1 : decode cX7_kind 1 = .ok (.iconst 0, 1) := by decide +kernel
theorem dX7_kind_2 : decode cX7_kind 2 = .ok (.iconst 3, 1) := by decide +kernel
theorem dX7_kind_3 : decode cX7_kind 3 = .ok (.invokestatic 61, 3) := by decide +kernel
theorem dX7_kind_6 : decode cX7_kind 6 = .ok (.ifCond .eq 12, 3) := by decide +kernel
theorem dX7_kind_9 : decode cX7_kind 9 = .ok (.iload_n 2, 1) := by decide +kernel
theorem dX7_kind_10 : decode cX7_kind 10 = .ok (.iconst 0, 1) := by decide +kernel
theorem dX7_kind_11 : decode cX7_kind 11 = .ok (.iconst 2, 1) := by decide +kernel
theorem dX7_kind_12 : decode cX7_kind 12 = .ok (.invokestatic 61, 3) := by decide +kernel
theorem dX7_kind_15 : decode cX7_kind 15 = .ok (.ifCond .ne 6, 3) := by decide +kernel
theorem dX7_kind_18 : decode cX7_kind 18 = .ok (.bipush (-2), 2) := by decide +kernel
theorem dX7_kind_20 : decode cX7_kind 20 = .ok (.ireturn, 1) := by decide +kernel
theorem dX7_kind_21 : decode cX7_kind 21 = .ok (.iload 4, 2) := by decide +kernel
theorem dX7_kind_23 : decode cX7_kind 23 = .ok (.iconst 0, 1) := by decide +kernel
theorem dX7_kind_24 : decode cX7_kind 24 = .ok (.bipush 9, 2) := by decide +kernel
theorem dX7_kind_26 : decode cX7_kind 26 = .ok (.invokestatic 61, 3) := by decide +kernel
theorem dX7_kind_29 : decode cX7_kind 29 = .ok (.ifCond .eq 14, 3) := by decide +kernel
theorem dX7_kind_32 : decode cX7_kind 32 = .ok (.iload 5, 2) := by decide +kernel
theorem dX7_kind_34 : decode cX7_kind 34 = .ok (.iconst 0, 1) := by decide +kernel
theorem dX7_kind_35 : decode cX7_kind 35 = .ok (.bipush 9, 2) := by decide +kernel
theorem dX7_kind_37 : decode cX7_kind 37 = .ok (.invokestatic 61, 3) := by decide +kernel
theorem dX7_kind_40 : decode cX7_kind 40 = .ok (.ifCond .ne 6, 3) := by decide +kernel
theorem dX7_kind_43 : decode cX7_kind 43 = .ok (.bipush (-2), 2) := by decide +kernel
theorem dX7_kind_45 : decode cX7_kind 45 = .ok (.ireturn, 1) := by decide +kernel
theorem dX7_kind_46 : decode cX7_kind 46 = .ok (.aload_n 0, 1) := by decide +kernel
theorem dX7_kind_47 : decode cX7_kind 47 = .ok (.getfield 12, 3) := by decide +kernel
theorem dX7_kind_50 : decode cX7_kind 50 = .ok (.getfield 65, 3) := by decide +kernel
theorem dX7_kind_53 : decode cX7_kind 53 = .ok (.bipush 8, 2) := by decide +kernel
theorem dX7_kind_55 : decode cX7_kind 55 = .ok (.if_icmp .lt 6, 3) := by decide +kernel
theorem dX7_kind_58 : decode cX7_kind 58 = .ok (.bipush (-3), 2) := by decide +kernel
theorem dX7_kind_60 : decode cX7_kind 60 = .ok (.ireturn, 1) := by decide +kernel
theorem dX7_kind_61 : decode cX7_kind 61 = .ok (.aload_n 0, 1) := by decide +kernel
theorem dX7_kind_62 : decode cX7_kind 62 = .ok (.getfield 12, 3) := by decide +kernel
theorem dX7_kind_65 : decode cX7_kind 65 = .ok (.iload_n 1, 1) := by decide +kernel
theorem dX7_kind_66 : decode cX7_kind 66 = .ok (.iload_n 2, 1) := by decide +kernel
theorem dX7_kind_67 : decode cX7_kind 67 = .ok (.iload_n 3, 1) := by decide +kernel
theorem dX7_kind_68 : decode cX7_kind 68 = .ok (.iload 4, 2) := by decide +kernel
theorem dX7_kind_70 : decode cX7_kind 70 = .ok (.iload 5, 2) := by decide +kernel
theorem dX7_kind_72 : decode cX7_kind 72 = .ok (.invokevirtual 68, 3) := by decide +kernel
theorem dX7_kind_75 : decode cX7_kind 75 = .ok (.ireturn, 1) := by decide +kernel
set_option maxRecDepth 20000 in
theorem ggX7_piece_X7_isKind : GoodIn wsX7_piece wsX7_isKind := goodIn_r _ [6, 7, 8, 9, 5, 10, 32, 33, 34, 35, 36, 37, 38, 46, 47, 48, 49, 50, 51] (by decide +kernel) (by decide +kernel)
set_option maxRecDepth 20000 in
theorem gX7_piece_X7_isKind : GoodIn wsX7_piece (wsV RX7 72 RX7 yX7_isKind wsX7_isKind) := goodIn_app (goodIn_of _ (by decide +kernel)) ggX7_piece_X7_isKind
set_option maxRecDepth 20000 in
theorem ggX7_piece_X7_isOwner : GoodIn wsX7_piece wsX7_isOwner := goodIn_r _ [13, 8, 9, 5, 10] (by decide +kernel) (by decide +kernel)
set_option maxRecDepth 20000 in
theorem gX7_piece_X7_isOwner : GoodIn wsX7_piece (va_wsS RX7 76 yX7_isOwner wsX7_isOwner) := goodIn_app (goodIn_of _ (by decide +kernel)) ggX7_piece_X7_isOwner
set_option maxRecDepth 20000 in
theorem ggX7_piece_X2_add : GoodIn wsX7_piece wsX2_add := goodIn_r _ [18, 19, 20, 21, 22, 23, 24, 25, 26, 27, 28, 29, 30, 31, 39, 40, 41, 42, 43, 44, 45, 52] (by decide +kernel) (by decide +kernel)
set_option maxRecDepth 20000 in
theorem gX7_piece_X2_add : GoodIn wsX7_piece (wsV RX7 80 RX2 yX2_add wsX2_add) := goodIn_app (goodIn_of _ (by decide +kernel)) ggX7_piece_X2_add
theorem dX7_piece_0 : decode cX7_piece 0 = .ok (.aload_n 0, 1) := by decide +kernel
theorem dX7_piece_1 : decode cX7_piece 1 = .ok (.iload_n 1, 1) := by decide +kernel
theorem dX7_piece_2 : decode cX7_piece 2 = .ok (.invokevirtual 72, 3) := by decide +kernel
theorem dX7_piece_5 : decode cX7_piece 5 = .ok (.ifCond .eq 10, 3) := by decide +kernel
theorem dX7_piece_8 : decode cX7_piece 8 = .ok (.iload_n 2, 1) := by decide +kernel
theorem dX7_piece_9 : decode cX7_piece 9 = .ok (.invokestatic 76, 3) := by decide +kernel
theorem dX7_piece_12 : decode cX7_piece 12 = .ok (.ifCond .ne 6, 3) := by decide +kernel
theorem dX7_piece_15 : decode cX7_piece 15 = .ok (.bipush (-2), 2) := by decide +kernel
theorem dX7_piece_17 : decode cX7_piece 17 = .ok (.ireturn, 1) := by decide +kernel
theorem dX7_piece_18 : decode cX7_piece 18 = .ok (.aload_n 0, 1) := by decide +kernel
theorem dX7_piece_19 : decode cX7_piece 19 = .ok (.getfield 19, 3) := by decide +kernel
theorem dX7_piece_22 : decode cX7_piece 22 = .ok (.getfield 79, 3) := by decide +kernel
theorem dX7_piece_25 : decode cX7_piece 25 = .ok (.bipush 100, 2) := by decide +kernel
theorem dX7_piece_27 : decode cX7_piece 27 = .ok (.if_icmp .lt 6, 3) := by decide +kernel
theorem dX7_piece_30 : decode cX7_piece 30 = .ok (.bipush (-3), 2) := by decide +kernel
theorem dX7_piece_32 : decode cX7_piece 32 = .ok (.ireturn, 1) := by decide +kernel
theorem dX7_piece_33 : decode cX7_piece 33 = .ok (.aload_n 0, 1) := by decide +kernel
theorem dX7_piece_34 : decode cX7_piece 34 = .ok (.getfield 19, 3) := by decide +kernel
theorem dX7_piece_37 : decode cX7_piece 37 = .ok (.iload_n 1, 1) := by decide +kernel
theorem dX7_piece_38 : decode cX7_piece 38 = .ok (.iload_n 2, 1) := by decide +kernel
theorem dX7_piece_39 : decode cX7_piece 39 = .ok (.iload_n 3, 1) := by decide +kernel
theorem dX7_piece_40 : decode cX7_piece 40 = .ok (.invokevirtual 80, 3) := by decide +kernel
theorem dX7_piece_43 : decode cX7_piece 43 = .ok (.ireturn, 1) := by decide +kernel
set_option maxRecDepth 20000 in
theorem ggX7_about_X7_isPiece : GoodIn wsX7_about wsX7_isPiece := goodIn_r _ [6, 1, 7, 8, 5, 9, 16, 17, 18, 19, 20, 21, 22, 23, 24, 25, 26, 27, 28, 29] (by decide +kernel) (by decide +kernel)
set_option maxRecDepth 20000 in
theorem gX7_about_X7_isPiece : GoodIn wsX7_about (wsV RX7 83 RX7 yX7_isPiece wsX7_isPiece) := goodIn_app (goodIn_of _ (by decide +kernel)) ggX7_about_X7_isPiece
set_option maxRecDepth 20000 in
theorem ggX7_about_X4_read : GoodIn wsX7_about wsX4_read := goodIn_r _ [14, 15, 30] (by decide +kernel) (by decide +kernel)
set_option maxRecDepth 20000 in
theorem gX7_about_X4_read : GoodIn wsX7_about (wsV RX7 90 RX4 yX4_read wsX4_read) := goodIn_app (goodIn_of _ (by decide +kernel)) ggX7_about_X4_read
theorem dX7_about_0 : decode cX7_about 0 = .ok (.aload_n 0, 1) := by decide +kernel
theorem dX7_about_1 : decode cX7_about 1 = .ok (.iload_n 1, 1) := by decide +kernel
theorem dX7_about_2 : decode cX7_about 2 = .ok (.invokevirtual 83, 3) := by decide +kernel
theorem dX7_about_5 : decode cX7_about 5 = .ok (.ifCond .ne 6, 3) := by decide +kernel
theorem dX7_about_8 : decode cX7_about 8 = .ok (.bipush (-2), 2) := by decide +kernel
theorem dX7_about_10 : decode cX7_about 10 = .ok (.ireturn, 1) := by decide +kernel
theorem dX7_about_11 : decode cX7_about 11 = .ok (.iload_n 2, 1) := by decide +kernel
theorem dX7_about_12 : decode cX7_about 12 = .ok (.tableswitch 112 0 5 #[40, 52, 64, 76, 88, 100], 40) := by decide +kernel
theorem dX7_about_52 : decode cX7_about 52 = .ok (.aload_n 0, 1) := by decide +kernel
theorem dX7_about_53 : decode cX7_about 53 = .ok (.getfield 19, 3) := by decide +kernel
theorem dX7_about_56 : decode cX7_about 56 = .ok (.getfield 86, 3) := by decide +kernel
theorem dX7_about_59 : decode cX7_about 59 = .ok (.iload_n 1, 1) := by decide +kernel
theorem dX7_about_60 : decode cX7_about 60 = .ok (.invokevirtual 90, 3) := by decide +kernel
theorem dX7_about_63 : decode cX7_about 63 = .ok (.ireturn, 1) := by decide +kernel
theorem dX7_about_64 : decode cX7_about 64 = .ok (.aload_n 0, 1) := by decide +kernel
theorem dX7_about_65 : decode cX7_about 65 = .ok (.getfield 19, 3) := by decide +kernel
theorem dX7_about_68 : decode cX7_about 68 = .ok (.getfield 96, 3) := by decide +kernel
theorem dX7_about_71 : decode cX7_about 71 = .ok (.iload_n 1, 1) := by decide +kernel
theorem dX7_about_72 : decode cX7_about 72 = .ok (.invokevirtual 90, 3) := by decide +kernel
theorem dX7_about_75 : decode cX7_about 75 = .ok (.ireturn, 1) := by decide +kernel
theorem dX7_about_76 : decode cX7_about 76 = .ok (.aload_n 0, 1) := by decide +kernel
theorem dX7_about_77 : decode cX7_about 77 = .ok (.getfield 19, 3) := by decide +kernel
theorem dX7_about_80 : decode cX7_about 80 = .ok (.getfield 99, 3) := by decide +kernel
theorem dX7_about_83 : decode cX7_about 83 = .ok (.iload_n 1, 1) := by decide +kernel
theorem dX7_about_84 : decode cX7_about 84 = .ok (.invokevirtual 90, 3) := by decide +kernel
theorem dX7_about_87 : decode cX7_about 87 = .ok (.ireturn, 1) := by decide +kernel
theorem dX7_about_88 : decode cX7_about 88 = .ok (.aload_n 0, 1) := by decide +kernel
theorem dX7_about_89 : decode cX7_about 89 = .ok (.getfield 19, 3) := by decide +kernel
theorem dX7_about_92 : decode cX7_about 92 = .ok (.getfield 102, 3) := by decide +kernel
theorem dX7_about_95 : decode cX7_about 95 = .ok (.iload_n 1, 1) := by decide +kernel
theorem dX7_about_96 : decode cX7_about 96 = .ok (.invokevirtual 90, 3) := by decide +kernel
theorem dX7_about_99 : decode cX7_about 99 = .ok (.ireturn, 1) := by decide +kernel
theorem dX7_about_100 : decode cX7_about 100 = .ok (.aload_n 0, 1) := by decide +kernel
theorem dX7_about_101 : decode cX7_about 101 = .ok (.getfield 19, 3) := by decide +kernel
theorem dX7_about_104 : decode cX7_about 104 = .ok (.getfield 105, 3) := by decide +kernel
theorem dX7_about_107 : decode cX7_about 107 = .ok (.iload_n 1, 1) := by decide +kernel
theorem dX7_about_108 : decode cX7_about 108 = .ok (.invokevirtual 90, 3) := by decide +kernel
theorem dX7_about_111 : decode cX7_about 111 = .ok (.ireturn, 1) := by decide +kernel
theorem dX7_about_112 : decode cX7_about 112 = .ok (.aload_n 0, 1) := by decide +kernel
theorem dX7_about_113 : decode cX7_about 113 = .ok (.getfield 19, 3) := by decide +kernel
theorem dX7_about_116 : decode cX7_about 116 = .ok (.getfield 108, 3) := by decide +kernel
theorem dX7_about_119 : decode cX7_about 119 = .ok (.iload_n 1, 1) := by decide +kernel
theorem dX7_about_120 : decode cX7_about 120 = .ok (.invokevirtual 90, 3) := by decide +kernel
theorem dX7_about_123 : decode cX7_about 123 = .ok (.ireturn, 1) := by decide +kernel
theorem dX7_about_124 : decode cX7_about 124 = .ok (.bipush (-2), 2) := by decide +kernel
theorem dX7_about_126 : decode cX7_about 126 = .ok (.ireturn, 1) := by decide +kernel
set_option maxRecDepth 20000 in
theorem ggX7_chip_X7_isPiece : GoodIn wsX7_chip wsX7_isPiece := goodIn_r _ [6, 1, 7, 8, 5, 9, 16, 17, 18, 19, 20, 21, 22, 23, 24, 25, 26, 27, 28, 29] (by decide +kernel) (by decide +kernel)
set_option maxRecDepth 20000 in
theorem gX7_chip_X7_isPiece : GoodIn wsX7_chip (wsV RX7 83 RX7 yX7_isPiece wsX7_isPiece) := goodIn_app (goodIn_of _ (by decide +kernel)) ggX7_chip_X7_isPiece
set_option maxRecDepth 20000 in
theorem ggX7_chip_X4_write : GoodIn wsX7_chip wsX4_write := goodIn_r _ [14, 15, 30] (by decide +kernel) (by decide +kernel)
set_option maxRecDepth 20000 in
theorem gX7_chip_X4_write : GoodIn wsX7_chip (wsV RX7 111 RX4 yX4_write wsX4_write) := goodIn_app (goodIn_of _ (by decide +kernel)) ggX7_chip_X4_write
theorem dX7_chip_0 : decode cX7_chip 0 = .ok (.aload_n 0, 1) := by decide +kernel
theorem dX7_chip_1 : decode cX7_chip 1 = .ok (.iload_n 1, 1) := by decide +kernel
theorem dX7_chip_2 : decode cX7_chip 2 = .ok (.invokevirtual 83, 3) := by decide +kernel
theorem dX7_chip_5 : decode cX7_chip 5 = .ok (.ifCond .ne 6, 3) := by decide +kernel
theorem dX7_chip_8 : decode cX7_chip 8 = .ok (.bipush (-2), 2) := by decide +kernel
theorem dX7_chip_10 : decode cX7_chip 10 = .ok (.ireturn, 1) := by decide +kernel
theorem dX7_chip_11 : decode cX7_chip 11 = .ok (.aload_n 0, 1) := by decide +kernel
theorem dX7_chip_12 : decode cX7_chip 12 = .ok (.getfield 19, 3) := by decide +kernel
theorem dX7_chip_15 : decode cX7_chip 15 = .ok (.getfield 99, 3) := by decide +kernel
theorem dX7_chip_18 : decode cX7_chip 18 = .ok (.iload_n 1, 1) := by decide +kernel
theorem dX7_chip_19 : decode cX7_chip 19 = .ok (.iload_n 2, 1) := by decide +kernel
theorem dX7_chip_20 : decode cX7_chip 20 = .ok (.ifCond .eq 7, 3) := by decide +kernel
theorem dX7_chip_23 : decode cX7_chip 23 = .ok (.iconst 1, 1) := by decide +kernel
theorem dX7_chip_24 : decode cX7_chip 24 = .ok (.goto 4, 3) := by decide +kernel
theorem dX7_chip_27 : decode cX7_chip 27 = .ok (.iconst 0, 1) := by decide +kernel
theorem dX7_chip_28 : decode cX7_chip 28 = .ok (.invokevirtual 111, 3) := by decide +kernel
theorem dX7_chip_31 : decode cX7_chip 31 = .ok (.iconst 1, 1) := by decide +kernel
theorem dX7_chip_32 : decode cX7_chip 32 = .ok (.ireturn, 1) := by decide +kernel
set_option maxRecDepth 20000 in
theorem ggX7_lost_X7_isPiece : GoodIn wsX7_lost wsX7_isPiece := goodIn_r _ [6, 1, 7, 8, 5, 9, 20, 21, 22, 23, 24, 25, 26, 27, 28, 29, 30, 31, 32, 33] (by decide +kernel) (by decide +kernel)
set_option maxRecDepth 20000 in
theorem gX7_lost_X7_isPiece : GoodIn wsX7_lost (wsV RX7 83 RX7 yX7_isPiece wsX7_isPiece) := goodIn_app (goodIn_of _ (by decide +kernel)) ggX7_lost_X7_isPiece
set_option maxRecDepth 20000 in
theorem ggX7_lost_X4_read : GoodIn wsX7_lost wsX4_read := goodIn_r _ [14, 15, 34] (by decide +kernel) (by decide +kernel)
set_option maxRecDepth 20000 in
theorem gX7_lost_X4_read : GoodIn wsX7_lost (wsV RX7 90 RX4 yX4_read wsX4_read) := goodIn_app (goodIn_of _ (by decide +kernel)) ggX7_lost_X4_read
set_option maxRecDepth 20000 in
theorem ggX7_lost_X4_write : GoodIn wsX7_lost wsX4_write := goodIn_r _ [19, 15, 34] (by decide +kernel) (by decide +kernel)
set_option maxRecDepth 20000 in
theorem gX7_lost_X4_write : GoodIn wsX7_lost (wsV RX7 111 RX4 yX4_write wsX4_write) := goodIn_app (goodIn_of _ (by decide +kernel)) ggX7_lost_X4_write
theorem dX7_lost_0 : decode cX7_lost 0 = .ok (.aload_n 0, 1) := by decide +kernel
theorem dX7_lost_1 : decode cX7_lost 1 = .ok (.iload_n 1, 1) := by decide +kernel
theorem dX7_lost_2 : decode cX7_lost 2 = .ok (.invokevirtual 83, 3) := by decide +kernel
theorem dX7_lost_5 : decode cX7_lost 5 = .ok (.ifCond .ne 6, 3) := by decide +kernel
theorem dX7_lost_8 : decode cX7_lost 8 = .ok (.bipush (-2), 2) := by decide +kernel
theorem dX7_lost_10 : decode cX7_lost 10 = .ok (.ireturn, 1) := by decide +kernel
theorem dX7_lost_11 : decode cX7_lost 11 = .ok (.aload_n 0, 1) := by decide +kernel
theorem dX7_lost_12 : decode cX7_lost 12 = .ok (.getfield 19, 3) := by decide +kernel
theorem dX7_lost_15 : decode cX7_lost 15 = .ok (.getfield 102, 3) := by decide +kernel
theorem dX7_lost_18 : decode cX7_lost 18 = .ok (.iload_n 1, 1) := by decide +kernel
theorem dX7_lost_19 : decode cX7_lost 19 = .ok (.invokevirtual 90, 3) := by decide +kernel
theorem dX7_lost_22 : decode cX7_lost 22 = .ok (.istore_n 2, 1) := by decide +kernel
theorem dX7_lost_23 : decode cX7_lost 23 = .ok (.iload_n 2, 1) := by decide +kernel
theorem dX7_lost_24 : decode cX7_lost 24 = .ok (.iconst 2, 1) := by decide +kernel
theorem dX7_lost_25 : decode cX7_lost 25 = .ok (.if_icmp .ne 6, 3) := by decide +kernel
theorem dX7_lost_28 : decode cX7_lost 28 = .ok (.bipush (-4), 2) := by decide +kernel
theorem dX7_lost_30 : decode cX7_lost 30 = .ok (.ireturn, 1) := by decide +kernel
theorem dX7_lost_31 : decode cX7_lost 31 = .ok (.iload_n 2, 1) := by decide +kernel
theorem dX7_lost_32 : decode cX7_lost 32 = .ok (.iconst 4, 1) := by decide +kernel
theorem dX7_lost_33 : decode cX7_lost 33 = .ok (.if_icmp .ne 7, 3) := by decide +kernel
theorem dX7_lost_36 : decode cX7_lost 36 = .ok (.iconst 0, 1) := by decide +kernel
theorem dX7_lost_37 : decode cX7_lost 37 = .ok (.goto 4, 3) := by decide +kernel
theorem dX7_lost_40 : decode cX7_lost 40 = .ok (.iconst 4, 1) := by decide +kernel
theorem dX7_lost_41 : decode cX7_lost 41 = .ok (.istore_n 3, 1) := by decide +kernel
theorem dX7_lost_42 : decode cX7_lost 42 = .ok (.aload_n 0, 1) := by decide +kernel
theorem dX7_lost_43 : decode cX7_lost 43 = .ok (.getfield 19, 3) := by decide +kernel
theorem dX7_lost_46 : decode cX7_lost 46 = .ok (.getfield 102, 3) := by decide +kernel
theorem dX7_lost_49 : decode cX7_lost 49 = .ok (.iload_n 1, 1) := by decide +kernel
theorem dX7_lost_50 : decode cX7_lost 50 = .ok (.iload_n 3, 1) := by decide +kernel
theorem dX7_lost_51 : decode cX7_lost 51 = .ok (.invokevirtual 111, 3) := by decide +kernel
theorem dX7_lost_54 : decode cX7_lost 54 = .ok (.iload_n 3, 1) := by decide +kernel
theorem dX7_lost_55 : decode cX7_lost 55 = .ok (.ireturn, 1) := by decide +kernel
set_option maxRecDepth 20000 in
theorem ggX7_again_X7_soilFrom : GoodIn wsX7_again wsX7_soilFrom := goodIn_r _ [5, 6, 7, 8, 9, 4, 10, 11, 12, 13, 14, 15, 16, 17, 18, 19, 20, 21, 22, 23, 24, 25, 26, 27, 28, 29, 30, 31, 32, 33, 34, 35, 36, 37, 38] (by decide +kernel) (by decide +kernel)
set_option maxRecDepth 20000 in
theorem gX7_again_X7_soilFrom : GoodIn wsX7_again (wsV RX7 115 RX7 yX7_soilFrom wsX7_soilFrom) := goodIn_app (goodIn_of _ (by decide +kernel)) ggX7_again_X7_soilFrom
theorem dX7_again_0 : decode cX7_again 0 = .ok (.aload_n 0, 1) := by decide +kernel
theorem dX7_again_1 : decode cX7_again 1 = .ok (.iload_n 1, 1) := by decide +kernel
theorem dX7_again_2 : decode cX7_again 2 = .ok (.iconst 3, 1) := by decide +kernel
theorem dX7_again_3 : decode cX7_again 3 = .ok (.invokevirtual 115, 3) := by decide +kernel
theorem dX7_again_6 : decode cX7_again 6 = .ok (.ireturn, 1) := by decide +kernel
set_option maxRecDepth 20000 in
theorem ggX7_pieces_X7_isOwnerOrAny : GoodIn wsX7_pieces wsX7_isOwnerOrAny := goodIn_r _ [5, 6, 7, 4, 8, 9, 10, 11] (by decide +kernel) (by decide +kernel)
set_option maxRecDepth 20000 in
theorem gX7_pieces_X7_isOwnerOrAny : GoodIn wsX7_pieces (va_wsS RX7 119 yX7_isOwnerOrAny wsX7_isOwnerOrAny) := goodIn_app (goodIn_of _ (by decide +kernel)) ggX7_pieces_X7_isOwnerOrAny
set_option maxRecDepth 20000 in
theorem ggX7_pieces_X7_isKindOrAny : GoodIn wsX7_pieces wsX7_isKindOrAny := goodIn_r _ [15, 16, 17, 18, 4, 19, 20, 9, 10, 11, 43, 44, 45, 46, 47, 48, 49, 50, 51, 52, 53, 54, 55] (by decide +kernel) (by decide +kernel)
set_option maxRecDepth 20000 in
theorem gX7_pieces_X7_isKindOrAny : GoodIn wsX7_pieces (wsV RX7 122 RX7 yX7_isKindOrAny wsX7_isKindOrAny) := goodIn_app (goodIn_of _ (by decide +kernel)) ggX7_pieces_X7_isKindOrAny
set_option maxRecDepth 20000 in
theorem ggX7_pieces_X7_isPlace : GoodIn wsX7_pieces wsX7_isPlace := goodIn_r _ [23, 9, 10, 4, 11] (by decide +kernel) (by decide +kernel)
set_option maxRecDepth 20000 in
theorem gX7_pieces_X7_isPlace : GoodIn wsX7_pieces (va_wsS RX7 125 yX7_isPlace wsX7_isPlace) := goodIn_app (goodIn_of _ (by decide +kernel)) ggX7_pieces_X7_isPlace
set_option maxRecDepth 20000 in
theorem ggX7_pieces_X2_tally : GoodIn wsX7_pieces wsX2_tally := goodIn_r _ [28, 29, 30, 31, 32, 27, 33, 34, 35, 36, 37, 38, 39, 40, 41, 42, 56, 57, 58, 59, 60, 61, 62, 63] (by decide +kernel) (by decide +kernel)
set_option maxRecDepth 20000 in
theorem gX7_pieces_X2_tally : GoodIn wsX7_pieces (wsV RX7 128 RX2 yX2_tally wsX2_tally) := goodIn_app (goodIn_of _ (by decide +kernel)) ggX7_pieces_X2_tally
theorem dX7_pieces_0 : decode cX7_pieces 0 = .ok (.iload_n 1, 1) := by decide +kernel
theorem dX7_pieces_1 : decode cX7_pieces 1 = .ok (.invokestatic 119, 3) := by decide +kernel
theorem dX7_pieces_4 : decode cX7_pieces 4 = .ok (.ifCond .eq 18, 3) := by decide +kernel
theorem dX7_pieces_7 : decode cX7_pieces 7 = .ok (.aload_n 0, 1) := by decide +kernel
theorem dX7_pieces_8 : decode cX7_pieces 8 = .ok (.iload_n 2, 1) := by decide +kernel
theorem dX7_pieces_9 : decode cX7_pieces 9 = .ok (.invokevirtual 122, 3) := by decide +kernel
theorem dX7_pieces_12 : decode cX7_pieces 12 = .ok (.ifCond .eq 10, 3) := by decide +kernel
theorem dX7_pieces_15 : decode cX7_pieces 15 = .ok (.iload_n 3, 1) := by decide +kernel
theorem dX7_pieces_16 : decode cX7_pieces 16 = .ok (.invokestatic 125, 3) := by decide +kernel
theorem dX7_pieces_19 : decode cX7_pieces 19 = .ok (.ifCond .ne 6, 3) := by decide +kernel
theorem dX7_pieces_22 : decode cX7_pieces 22 = .ok (.bipush (-2), 2) := by decide +kernel
theorem dX7_pieces_24 : decode cX7_pieces 24 = .ok (.ireturn, 1) := by decide +kernel
theorem dX7_pieces_25 : decode cX7_pieces 25 = .ok (.aload_n 0, 1) := by decide +kernel
theorem dX7_pieces_26 : decode cX7_pieces 26 = .ok (.getfield 19, 3) := by decide +kernel
theorem dX7_pieces_29 : decode cX7_pieces 29 = .ok (.iload_n 1, 1) := by decide +kernel
theorem dX7_pieces_30 : decode cX7_pieces 30 = .ok (.iload_n 2, 1) := by decide +kernel
theorem dX7_pieces_31 : decode cX7_pieces 31 = .ok (.iload_n 3, 1) := by decide +kernel
theorem dX7_pieces_32 : decode cX7_pieces 32 = .ok (.invokevirtual 128, 3) := by decide +kernel
theorem dX7_pieces_35 : decode cX7_pieces 35 = .ok (.ireturn, 1) := by decide +kernel
set_option maxRecDepth 20000 in
theorem ggX7_scan_X7_isSheet : GoodIn wsX7_scan wsX7_isSheet := goodIn_r _ [6, 7, 8, 5, 9] (by decide +kernel) (by decide +kernel)
set_option maxRecDepth 20000 in
theorem gX7_scan_X7_isSheet : GoodIn wsX7_scan (va_wsS RX7 132 yX7_isSheet wsX7_isSheet) := goodIn_app (goodIn_of _ (by decide +kernel)) ggX7_scan_X7_isSheet
set_option maxRecDepth 20000 in
theorem ggX7_scan_X7_within : GoodIn wsX7_scan wsX7_within := goodIn_r _ [9] (by decide +kernel) (by decide +kernel)
set_option maxRecDepth 20000 in
theorem gX7_scan_X7_within : GoodIn wsX7_scan (va_wsS RX7 61 yX7_within wsX7_within) := goodIn_app (goodIn_of _ (by decide +kernel)) ggX7_scan_X7_within
set_option maxRecDepth 20000 in
theorem ggX7_scan_X5_isLost : GoodIn wsX7_scan wsX5_isLost := goodIn_r _ [14, 15, 16, 17, 18, 19, 20, 21, 64, 65, 66, 67] (by decide +kernel) (by decide +kernel)
set_option maxRecDepth 20000 in
theorem gX7_scan_X5_isLost : GoodIn wsX7_scan (wsV RX7 135 RX5 yX5_isLost wsX5_isLost) := goodIn_app (goodIn_of _ (by decide +kernel)) ggX7_scan_X5_isLost
set_option maxRecDepth 20000 in
theorem ggX7_scan_X7_find : GoodIn wsX7_scan wsX7_find := goodIn_r _ [25, 26, 50, 51, 52, 53, 54, 55, 56] (by decide +kernel) (by decide +kernel)
set_option maxRecDepth 20000 in
theorem gX7_scan_X7_find : GoodIn wsX7_scan (wsV RX7 138 RX7 yX7_find wsX7_find) := goodIn_app (goodIn_of _ (by decide +kernel)) ggX7_scan_X7_find
set_option maxRecDepth 20000 in
theorem ggX7_scan_X5_holds : GoodIn wsX7_scan wsX5_holds := goodIn_r _ [30, 31, 16, 17, 18, 19, 20, 21, 64, 65, 66, 67] (by decide +kernel) (by decide +kernel)
set_option maxRecDepth 20000 in
theorem gX7_scan_X5_holds : GoodIn wsX7_scan (wsV RX7 141 RX5 yX5_holds wsX5_holds) := goodIn_app (goodIn_of _ (by decide +kernel)) ggX7_scan_X5_holds
set_option maxRecDepth 20000 in
theorem ggX7_scan_X5_item : GoodIn wsX7_scan wsX5_item := goodIn_r _ [35, 36, 16, 17, 18, 19, 20, 21, 64, 65, 66, 67] (by decide +kernel) (by decide +kernel)
set_option maxRecDepth 20000 in
theorem gX7_scan_X5_item : GoodIn wsX7_scan (wsV RX7 144 RX5 yX5_item wsX5_item) := goodIn_app (goodIn_of _ (by decide +kernel)) ggX7_scan_X5_item
set_option maxRecDepth 20000 in
theorem ggX7_scan_X7_isPiece : GoodIn wsX7_scan wsX7_isPiece := goodIn_r _ [40, 2, 7, 8, 5, 9, 50, 51, 52, 53, 54, 55, 56, 57, 58, 59, 60, 61, 62, 63] (by decide +kernel) (by decide +kernel)
set_option maxRecDepth 20000 in
theorem gX7_scan_X7_isPiece : GoodIn wsX7_scan (wsV RX7 83 RX7 yX7_isPiece wsX7_isPiece) := goodIn_app (goodIn_of _ (by decide +kernel)) ggX7_scan_X7_isPiece
set_option maxRecDepth 20000 in
theorem ggX7_scan_X4_read : GoodIn wsX7_scan wsX4_read := goodIn_r _ [20, 21, 67] (by decide +kernel) (by decide +kernel)
set_option maxRecDepth 20000 in
theorem gX7_scan_X4_read : GoodIn wsX7_scan (wsV RX7 90 RX4 yX4_read wsX4_read) := goodIn_app (goodIn_of _ (by decide +kernel)) ggX7_scan_X4_read
set_option maxRecDepth 20000 in
theorem ggX7_scan_X7_soilFrom : GoodIn wsX7_scan wsX7_soilFrom := goodIn_r _ [45, 2, 37, 38, 39, 5, 40, 7, 8, 9, 41, 17, 18, 19, 20, 21, 46, 47, 48, 49, 50, 51, 52, 53, 54, 55, 56, 57, 58, 59, 60, 61, 62, 63, 67] (by decide +kernel) (by decide +kernel)
set_option maxRecDepth 20000 in
theorem gX7_scan_X7_soilFrom : GoodIn wsX7_scan (wsV RX7 115 RX7 yX7_soilFrom wsX7_soilFrom) := goodIn_app (goodIn_of _ (by decide +kernel)) ggX7_scan_X7_soilFrom
theorem dX7_scan_0 : decode cX7_scan 0 = .ok (.iload_n 1, 1) := by decide +kernel
theorem dX7_scan_1 : decode cX7_scan 1 = .ok (.invokestatic 132, 3) := by decide +kernel
theorem dX7_scan_4 : decode cX7_scan 4 = .ok (.ifCond .eq 13, 3) := by decide +kernel
theorem dX7_scan_7 : decode cX7_scan 7 = .ok (.iload_n 2, 1) := by decide +kernel
theorem dX7_scan_8 : decode cX7_scan 8 = .ok (.iconst 0, 1) := by decide +kernel
theorem dX7_scan_9 : decode cX7_scan 9 = .ok (.bipush 60, 2) := by decide +kernel
theorem dX7_scan_11 : decode cX7_scan 11 = .ok (.invokestatic 61, 3) := by decide +kernel
theorem dX7_scan_14 : decode cX7_scan 14 = .ok (.ifCond .ne 6, 3) := by decide +kernel
theorem dX7_scan_17 : decode cX7_scan 17 = .ok (.bipush (-2), 2) := by decide +kernel
theorem dX7_scan_19 : decode cX7_scan 19 = .ok (.ireturn, 1) := by decide +kernel
theorem dX7_scan_20 : decode cX7_scan 20 = .ok (.aload_n 0, 1) := by decide +kernel
theorem dX7_scan_21 : decode cX7_scan 21 = .ok (.getfield 53, 3) := by decide +kernel
theorem dX7_scan_24 : decode cX7_scan 24 = .ok (.iload_n 1, 1) := by decide +kernel
theorem dX7_scan_25 : decode cX7_scan 25 = .ok (.invokevirtual 135, 3) := by decide +kernel
theorem dX7_scan_28 : decode cX7_scan 28 = .ok (.ifCond .eq 9, 3) := by decide +kernel
theorem dX7_scan_31 : decode cX7_scan 31 = .ok (.aload_n 0, 1) := by decide +kernel
theorem dX7_scan_32 : decode cX7_scan 32 = .ok (.iconst 1, 1) := by decide +kernel
theorem dX7_scan_33 : decode cX7_scan 33 = .ok (.invokevirtual 138, 3) := by decide +kernel
theorem dX7_scan_36 : decode cX7_scan 36 = .ok (.ireturn, 1) := by decide +kernel
theorem dX7_scan_37 : decode cX7_scan 37 = .ok (.aload_n 0, 1) := by decide +kernel
theorem dX7_scan_38 : decode cX7_scan 38 = .ok (.getfield 53, 3) := by decide +kernel
theorem dX7_scan_41 : decode cX7_scan 41 = .ok (.iload_n 1, 1) := by decide +kernel
theorem dX7_scan_42 : decode cX7_scan 42 = .ok (.iconst 0, 1) := by decide +kernel
theorem dX7_scan_43 : decode cX7_scan 43 = .ok (.iload_n 2, 1) := by decide +kernel
theorem dX7_scan_44 : decode cX7_scan 44 = .ok (.invokevirtual 141, 3) := by decide +kernel
theorem dX7_scan_47 : decode cX7_scan 47 = .ok (.ifCond .ne 9, 3) := by decide +kernel
theorem dX7_scan_50 : decode cX7_scan 50 = .ok (.aload_n 0, 1) := by decide +kernel
theorem dX7_scan_51 : decode cX7_scan 51 = .ok (.iconst 2, 1) := by decide +kernel
theorem dX7_scan_52 : decode cX7_scan 52 = .ok (.invokevirtual 138, 3) := by decide +kernel
theorem dX7_scan_55 : decode cX7_scan 55 = .ok (.ireturn, 1) := by decide +kernel
theorem dX7_scan_56 : decode cX7_scan 56 = .ok (.iconst 0, 1) := by decide +kernel
theorem dX7_scan_57 : decode cX7_scan 57 = .ok (.istore_n 3, 1) := by decide +kernel
theorem dX7_scan_58 : decode cX7_scan 58 = .ok (.iconst 0, 1) := by decide +kernel
theorem dX7_scan_59 : decode cX7_scan 59 = .ok (.istore 4, 2) := by decide +kernel
theorem dX7_scan_61 : decode cX7_scan 61 = .ok (.iload 4, 2) := by decide +kernel
theorem dX7_scan_63 : decode cX7_scan 63 = .ok (.iload_n 2, 1) := by decide +kernel
theorem dX7_scan_64 : decode cX7_scan 64 = .ok (.if_icmp .ge 60, 3) := by decide +kernel
theorem dX7_scan_67 : decode cX7_scan 67 = .ok (.aload_n 0, 1) := by decide +kernel
theorem dX7_scan_68 : decode cX7_scan 68 = .ok (.getfield 53, 3) := by decide +kernel
theorem dX7_scan_71 : decode cX7_scan 71 = .ok (.iload_n 1, 1) := by decide +kernel
theorem dX7_scan_72 : decode cX7_scan 72 = .ok (.iload 4, 2) := by decide +kernel
theorem dX7_scan_74 : decode cX7_scan 74 = .ok (.invokevirtual 144, 3) := by decide +kernel
theorem dX7_scan_77 : decode cX7_scan 77 = .ok (.istore 5, 2) := by decide +kernel
theorem dX7_scan_79 : decode cX7_scan 79 = .ok (.aload_n 0, 1) := by decide +kernel
theorem dX7_scan_80 : decode cX7_scan 80 = .ok (.iload 5, 2) := by decide +kernel
theorem dX7_scan_82 : decode cX7_scan 82 = .ok (.invokevirtual 83, 3) := by decide +kernel
theorem dX7_scan_85 : decode cX7_scan 85 = .ok (.ifCond .eq 33, 3) := by decide +kernel
theorem dX7_scan_88 : decode cX7_scan 88 = .ok (.aload_n 0, 1) := by decide +kernel
theorem dX7_scan_89 : decode cX7_scan 89 = .ok (.getfield 19, 3) := by decide +kernel
theorem dX7_scan_92 : decode cX7_scan 92 = .ok (.getfield 99, 3) := by decide +kernel
theorem dX7_scan_95 : decode cX7_scan 95 = .ok (.iload 5, 2) := by decide +kernel
theorem dX7_scan_97 : decode cX7_scan 97 = .ok (.invokevirtual 90, 3) := by decide +kernel
theorem dX7_scan_100 : decode cX7_scan 100 = .ok (.iconst 1, 1) := by decide +kernel
theorem dX7_scan_101 : decode cX7_scan 101 = .ok (.if_icmp .ne 17, 3) := by decide +kernel
theorem dX7_scan_104 : decode cX7_scan 104 = .ok (.aload_n 0, 1) := by decide +kernel
theorem dX7_scan_105 : decode cX7_scan 105 = .ok (.iload 5, 2) := by decide +kernel
theorem dX7_scan_107 : decode cX7_scan 107 = .ok (.iconst 0, 1) := by decide +kernel
theorem dX7_scan_108 : decode cX7_scan 108 = .ok (.invokevirtual 115, 3) := by decide +kernel
theorem dX7_scan_111 : decode cX7_scan 111 = .ok (.iconst 1, 1) := by decide +kernel
theorem dX7_scan_112 : decode cX7_scan 112 = .ok (.if_icmp .ne 6, 3) := by decide +kernel
theorem dX7_scan_115 : decode cX7_scan 115 = .ok (.iinc 3 1, 3) := by decide +kernel
theorem dX7_scan_118 : decode cX7_scan 118 = .ok (.iinc 4 1, 3) := by decide +kernel
theorem dX7_scan_121 : decode cX7_scan 121 = .ok (.goto (-60), 3) := by decide +kernel
theorem dX7_scan_124 : decode cX7_scan 124 = .ok (.iload_n 3, 1) := by decide +kernel
theorem dX7_scan_125 : decode cX7_scan 125 = .ok (.ireturn, 1) := by decide +kernel
set_option maxRecDepth 20000 in
theorem ggX7_hand_X7_soilFrom : GoodIn wsX7_hand wsX7_soilFrom := goodIn_r _ [5, 6, 7, 8, 9, 4, 10, 11, 12, 13, 14, 15, 16, 17, 18, 19, 20, 21, 22, 23, 24, 25, 26, 27, 28, 29, 30, 31, 32, 33, 34, 35, 36, 37, 38] (by decide +kernel) (by decide +kernel)
set_option maxRecDepth 20000 in
theorem gX7_hand_X7_soilFrom : GoodIn wsX7_hand (wsV RX7 115 RX7 yX7_soilFrom wsX7_soilFrom) := goodIn_app (goodIn_of _ (by decide +kernel)) ggX7_hand_X7_soilFrom
theorem dX7_hand_0 : decode cX7_hand 0 = .ok (.aload_n 0, 1) := by decide +kernel
theorem dX7_hand_1 : decode cX7_hand 1 = .ok (.iload_n 1, 1) := by decide +kernel
theorem dX7_hand_2 : decode cX7_hand 2 = .ok (.iconst 0, 1) := by decide +kernel
theorem dX7_hand_3 : decode cX7_hand 3 = .ok (.invokevirtual 115, 3) := by decide +kernel
theorem dX7_hand_6 : decode cX7_hand 6 = .ok (.ireturn, 1) := by decide +kernel
set_option maxRecDepth 20000 in
theorem ggX7_batch_X7_isKind : GoodIn wsX7_batch wsX7_isKind := goodIn_r _ [7, 8, 9, 10, 6, 11, 52, 53, 54, 55, 56, 57, 58, 64, 65, 66, 67, 68, 69] (by decide +kernel) (by decide +kernel)
set_option maxRecDepth 20000 in
theorem gX7_batch_X7_isKind : GoodIn wsX7_batch (wsV RX7 72 RX7 yX7_isKind wsX7_isKind) := goodIn_app (goodIn_of _ (by decide +kernel)) ggX7_batch_X7_isKind
set_option maxRecDepth 20000 in
theorem ggX7_batch_X7_isOwnerOrAny : GoodIn wsX7_batch wsX7_isOwnerOrAny := goodIn_r _ [14, 15, 16, 6, 17, 9, 10, 11] (by decide +kernel) (by decide +kernel)
set_option maxRecDepth 20000 in
theorem gX7_batch_X7_isOwnerOrAny : GoodIn wsX7_batch (va_wsS RX7 119 yX7_isOwnerOrAny wsX7_isOwnerOrAny) := goodIn_app (goodIn_of _ (by decide +kernel)) ggX7_batch_X7_isOwnerOrAny
set_option maxRecDepth 20000 in
theorem ggX7_batch_X7_within : GoodIn wsX7_batch wsX7_within := goodIn_r _ [11] (by decide +kernel) (by decide +kernel)
set_option maxRecDepth 20000 in
theorem gX7_batch_X7_within : GoodIn wsX7_batch (va_wsS RX7 61 yX7_within wsX7_within) := goodIn_app (goodIn_of _ (by decide +kernel)) ggX7_batch_X7_within
set_option maxRecDepth 20000 in
theorem ggX7_batch_X2_fillBatch : GoodIn wsX7_batch wsX2_fillBatch := goodIn_r _ [22, 23, 24, 25, 26, 27, 28, 21, 29, 30, 31, 32, 33, 34, 35, 36, 37, 38, 39, 40, 41, 70, 71, 72, 73, 74, 75, 76, 77] (by decide +kernel) (by decide +kernel)
set_option maxRecDepth 20000 in
theorem gX7_batch_X2_fillBatch : GoodIn wsX7_batch (wsV RX7 148 RX2 yX2_fillBatch wsX2_fillBatch) := goodIn_app (goodIn_of _ (by decide +kernel)) ggX7_batch_X2_fillBatch
set_option maxRecDepth 20000 in
theorem ggX7_batch_X6_add : GoodIn wsX7_batch wsX6_add := goodIn_r _ [46, 47, 48, 49, 50, 51, 39, 40, 35, 41, 37, 59, 60, 61, 62, 63, 77] (by decide +kernel) (by decide +kernel)
set_option maxRecDepth 20000 in
theorem gX7_batch_X6_add : GoodIn wsX7_batch (wsV RX7 152 RX6 yX6_add wsX6_add) := goodIn_app (goodIn_of _ (by decide +kernel)) ggX7_batch_X6_add
theorem dX7_batch_0 : decode cX7_batch 0 = .ok (.aload_n 0, 1) := by decide +kernel
theorem dX7_batch_1 : decode cX7_batch 1 = .ok (.iload_n 1, 1) := by decide +kernel
theorem dX7_batch_2 : decode cX7_batch 2 = .ok (.invokevirtual 72, 3) := by decide +kernel
theorem dX7_batch_5 : decode cX7_batch 5 = .ok (.ifCond .eq 20, 3) := by decide +kernel
theorem dX7_batch_8 : decode cX7_batch 8 = .ok (.iload_n 2, 1) := by decide +kernel
theorem dX7_batch_9 : decode cX7_batch 9 = .ok (.invokestatic 119, 3) := by decide +kernel
theorem dX7_batch_12 : decode cX7_batch 12 = .ok (.ifCond .eq 13, 3) := by decide +kernel
theorem dX7_batch_15 : decode cX7_batch 15 = .ok (.iload_n 3, 1) := by decide +kernel
theorem dX7_batch_16 : decode cX7_batch 16 = .ok (.iconst 1, 1) := by decide +kernel
theorem dX7_batch_17 : decode cX7_batch 17 = .ok (.bipush 20, 2) := by decide +kernel
theorem dX7_batch_19 : decode cX7_batch 19 = .ok (.invokestatic 61, 3) := by decide +kernel
theorem dX7_batch_22 : decode cX7_batch 22 = .ok (.ifCond .ne 6, 3) := by decide +kernel
theorem dX7_batch_25 : decode cX7_batch 25 = .ok (.bipush (-2), 2) := by decide +kernel
theorem dX7_batch_27 : decode cX7_batch 27 = .ok (.ireturn, 1) := by decide +kernel
theorem dX7_batch_28 : decode cX7_batch 28 = .ok (.aload_n 0, 1) := by decide +kernel
theorem dX7_batch_29 : decode cX7_batch 29 = .ok (.getfield 28, 3) := by decide +kernel
theorem dX7_batch_32 : decode cX7_batch 32 = .ok (.getfield 147, 3) := by decide +kernel
theorem dX7_batch_35 : decode cX7_batch 35 = .ok (.bipush 12, 2) := by decide +kernel
theorem dX7_batch_37 : decode cX7_batch 37 = .ok (.if_icmp .lt 6, 3) := by decide +kernel
theorem dX7_batch_40 : decode cX7_batch 40 = .ok (.bipush (-3), 2) := by decide +kernel
theorem dX7_batch_42 : decode cX7_batch 42 = .ok (.ireturn, 1) := by decide +kernel
theorem dX7_batch_43 : decode cX7_batch 43 = .ok (.aload_n 0, 1) := by decide +kernel
theorem dX7_batch_44 : decode cX7_batch 44 = .ok (.getfield 19, 3) := by decide +kernel
theorem dX7_batch_47 : decode cX7_batch 47 = .ok (.aload_n 0, 1) := by decide +kernel
theorem dX7_batch_48 : decode cX7_batch 48 = .ok (.getfield 28, 3) := by decide +kernel
theorem dX7_batch_51 : decode cX7_batch 51 = .ok (.getfield 147, 3) := by decide +kernel
theorem dX7_batch_54 : decode cX7_batch 54 = .ok (.iload_n 1, 1) := by decide +kernel
theorem dX7_batch_55 : decode cX7_batch 55 = .ok (.iload_n 2, 1) := by decide +kernel
theorem dX7_batch_56 : decode cX7_batch 56 = .ok (.iload_n 3, 1) := by decide +kernel
theorem dX7_batch_57 : decode cX7_batch 57 = .ok (.invokevirtual 148, 3) := by decide +kernel
theorem dX7_batch_60 : decode cX7_batch 60 = .ok (.istore 4, 2) := by decide +kernel
theorem dX7_batch_62 : decode cX7_batch 62 = .ok (.iload 4, 2) := by decide +kernel
theorem dX7_batch_64 : decode cX7_batch 64 = .ok (.ifCond .ne 6, 3) := by decide +kernel
theorem dX7_batch_67 : decode cX7_batch 67 = .ok (.bipush (-4), 2) := by decide +kernel
theorem dX7_batch_69 : decode cX7_batch 69 = .ok (.ireturn, 1) := by decide +kernel
theorem dX7_batch_70 : decode cX7_batch 70 = .ok (.aload_n 0, 1) := by decide +kernel
theorem dX7_batch_71 : decode cX7_batch 71 = .ok (.getfield 28, 3) := by decide +kernel
theorem dX7_batch_74 : decode cX7_batch 74 = .ok (.iload_n 1, 1) := by decide +kernel
theorem dX7_batch_75 : decode cX7_batch 75 = .ok (.iload 4, 2) := by decide +kernel
theorem dX7_batch_77 : decode cX7_batch 77 = .ok (.invokevirtual 152, 3) := by decide +kernel
theorem dX7_batch_80 : decode cX7_batch 80 = .ok (.iload 4, 2) := by decide +kernel
theorem dX7_batch_82 : decode cX7_batch 82 = .ok (.ireturn, 1) := by decide +kernel
set_option maxRecDepth 20000 in
theorem ggX7_at_X7_isOrderPlace : GoodIn wsX7_at wsX7_isOrderPlace := goodIn_r _ [6, 1, 7, 8, 5, 9, 16, 17, 18, 19, 20, 21, 22, 23, 24, 25, 26, 27] (by decide +kernel) (by decide +kernel)
set_option maxRecDepth 20000 in
theorem gX7_at_X7_isOrderPlace : GoodIn wsX7_at (wsV RX7 154 RX7 yX7_isOrderPlace wsX7_isOrderPlace) := goodIn_app (goodIn_of _ (by decide +kernel)) ggX7_at_X7_isOrderPlace
set_option maxRecDepth 20000 in
theorem ggX7_at_X4_read : GoodIn wsX7_at wsX4_read := goodIn_r _ [14, 15, 28] (by decide +kernel) (by decide +kernel)
set_option maxRecDepth 20000 in
theorem gX7_at_X4_read : GoodIn wsX7_at (wsV RX7 90 RX4 yX4_read wsX4_read) := goodIn_app (goodIn_of _ (by decide +kernel)) ggX7_at_X4_read
theorem dX7_at_0 : decode cX7_at 0 = .ok (.aload_n 0, 1) := by decide +kernel
theorem dX7_at_1 : decode cX7_at 1 = .ok (.iload_n 1, 1) := by decide +kernel
theorem dX7_at_2 : decode cX7_at 2 = .ok (.invokevirtual 154, 3) := by decide +kernel
theorem dX7_at_5 : decode cX7_at 5 = .ok (.ifCond .eq 17, 3) := by decide +kernel
theorem dX7_at_8 : decode cX7_at 8 = .ok (.aload_n 0, 1) := by decide +kernel
theorem dX7_at_9 : decode cX7_at 9 = .ok (.getfield 28, 3) := by decide +kernel
theorem dX7_at_12 : decode cX7_at 12 = .ok (.getfield 157, 3) := by decide +kernel
theorem dX7_at_15 : decode cX7_at 15 = .ok (.iload_n 1, 1) := by decide +kernel
theorem dX7_at_16 : decode cX7_at 16 = .ok (.invokevirtual 90, 3) := by decide +kernel
theorem dX7_at_19 : decode cX7_at 19 = .ok (.goto 4, 3) := by decide +kernel
theorem dX7_at_22 : decode cX7_at 22 = .ok (.iconst (-1), 1) := by decide +kernel
theorem dX7_at_23 : decode cX7_at 23 = .ok (.ireturn, 1) := by decide +kernel
set_option maxRecDepth 20000 in
theorem ggX7_of_X7_within : GoodIn wsX7_of wsX7_within := goodIn_r _ [6] (by decide +kernel) (by decide +kernel)
set_option maxRecDepth 20000 in
theorem gX7_of_X7_within : GoodIn wsX7_of (va_wsS RX7 61 yX7_within wsX7_within) := goodIn_app (goodIn_of _ (by decide +kernel)) ggX7_of_X7_within
set_option maxRecDepth 20000 in
theorem ggX7_of_X4_read : GoodIn wsX7_of wsX4_read := goodIn_r _ [11, 12, 41] (by decide +kernel) (by decide +kernel)
set_option maxRecDepth 20000 in
theorem gX7_of_X4_read : GoodIn wsX7_of (wsV RX7 90 RX4 yX4_read wsX4_read) := goodIn_app (goodIn_of _ (by decide +kernel)) ggX7_of_X4_read
set_option maxRecDepth 20000 in
theorem ggX7_of_X2_pieceOfBatch : GoodIn wsX7_of wsX2_pieceOfBatch := goodIn_r _ [17, 18, 19, 20, 8, 9, 10, 11, 12, 42, 43, 44, 45, 46, 47, 48, 41] (by decide +kernel) (by decide +kernel)
set_option maxRecDepth 20000 in
theorem gX7_of_X2_pieceOfBatch : GoodIn wsX7_of (wsV RX7 163 RX2 yX2_pieceOfBatch wsX2_pieceOfBatch) := goodIn_app (goodIn_of _ (by decide +kernel)) ggX7_of_X2_pieceOfBatch
set_option maxRecDepth 20000 in
theorem ggX7_of_X6_placeOf : GoodIn wsX7_of wsX6_placeOf := goodIn_r _ [25, 26, 27, 28, 8, 9, 10, 11, 12, 36, 37, 38, 39, 40, 41] (by decide +kernel) (by decide +kernel)
set_option maxRecDepth 20000 in
theorem gX7_of_X6_placeOf : GoodIn wsX7_of (wsV RX7 167 RX6 yX6_placeOf wsX6_placeOf) := goodIn_app (goodIn_of _ (by decide +kernel)) ggX7_of_X6_placeOf
theorem dX7_of_0 : decode cX7_of 0 = .ok (.iload_n 1, 1) := by decide +kernel
theorem dX7_of_1 : decode cX7_of 1 = .ok (.iconst 0, 1) := by decide +kernel
theorem dX7_of_2 : decode cX7_of 2 = .ok (.aload_n 0, 1) := by decide +kernel
theorem dX7_of_3 : decode cX7_of 3 = .ok (.getfield 28, 3) := by decide +kernel
theorem dX7_of_6 : decode cX7_of 6 = .ok (.getfield 147, 3) := by decide +kernel
theorem dX7_of_9 : decode cX7_of 9 = .ok (.iconst 1, 1) := by decide +kernel
theorem dX7_of_10 : decode cX7_of 10 = .ok (.isub, 1) := by decide +kernel
theorem dX7_of_11 : decode cX7_of 11 = .ok (.invokestatic 61, 3) := by decide +kernel
theorem dX7_of_14 : decode cX7_of 14 = .ok (.ifCond .ne 6, 3) := by decide +kernel
theorem dX7_of_17 : decode cX7_of 17 = .ok (.bipush (-2), 2) := by decide +kernel
theorem dX7_of_19 : decode cX7_of 19 = .ok (.ireturn, 1) := by decide +kernel
theorem dX7_of_20 : decode cX7_of 20 = .ok (.aload_n 0, 1) := by decide +kernel
theorem dX7_of_21 : decode cX7_of 21 = .ok (.getfield 28, 3) := by decide +kernel
theorem dX7_of_24 : decode cX7_of 24 = .ok (.getfield 160, 3) := by decide +kernel
theorem dX7_of_27 : decode cX7_of 27 = .ok (.iload_n 1, 1) := by decide +kernel
theorem dX7_of_28 : decode cX7_of 28 = .ok (.invokevirtual 90, 3) := by decide +kernel
theorem dX7_of_31 : decode cX7_of 31 = .ok (.istore_n 3, 1) := by decide +kernel
theorem dX7_of_32 : decode cX7_of 32 = .ok (.iload_n 2, 1) := by decide +kernel
theorem dX7_of_33 : decode cX7_of 33 = .ok (.bipush 10, 2) := by decide +kernel
theorem dX7_of_35 : decode cX7_of 35 = .ok (.bipush 10, 2) := by decide +kernel
theorem dX7_of_37 : decode cX7_of 37 = .ok (.iload_n 3, 1) := by decide +kernel
theorem dX7_of_38 : decode cX7_of 38 = .ok (.iadd, 1) := by decide +kernel
theorem dX7_of_39 : decode cX7_of 39 = .ok (.iconst 1, 1) := by decide +kernel
theorem dX7_of_40 : decode cX7_of 40 = .ok (.isub, 1) := by decide +kernel
theorem dX7_of_41 : decode cX7_of 41 = .ok (.invokestatic 61, 3) := by decide +kernel
theorem dX7_of_44 : decode cX7_of 44 = .ok (.ifCond .eq 16, 3) := by decide +kernel
theorem dX7_of_47 : decode cX7_of 47 = .ok (.aload_n 0, 1) := by decide +kernel
theorem dX7_of_48 : decode cX7_of 48 = .ok (.getfield 19, 3) := by decide +kernel
theorem dX7_of_51 : decode cX7_of 51 = .ok (.iload_n 1, 1) := by decide +kernel
theorem dX7_of_52 : decode cX7_of 52 = .ok (.iload_n 2, 1) := by decide +kernel
theorem dX7_of_53 : decode cX7_of 53 = .ok (.bipush 10, 2) := by decide +kernel
theorem dX7_of_55 : decode cX7_of 55 = .ok (.isub, 1) := by decide +kernel
theorem dX7_of_56 : decode cX7_of 56 = .ok (.invokevirtual 163, 3) := by decide +kernel
theorem dX7_of_59 : decode cX7_of 59 = .ok (.ireturn, 1) := by decide +kernel
theorem dX7_of_60 : decode cX7_of 60 = .ok (.iload_n 2, 1) := by decide +kernel
theorem dX7_of_61 : decode cX7_of 61 = .ok (.tableswitch 50 0 2 #[27, 39, 41], 27) := by decide +kernel
theorem dX7_of_88 : decode cX7_of 88 = .ok (.aload_n 0, 1) := by decide +kernel
theorem dX7_of_89 : decode cX7_of 89 = .ok (.getfield 28, 3) := by decide +kernel
theorem dX7_of_92 : decode cX7_of 92 = .ok (.getfield 166, 3) := by decide +kernel
theorem dX7_of_95 : decode cX7_of 95 = .ok (.iload_n 1, 1) := by decide +kernel
theorem dX7_of_96 : decode cX7_of 96 = .ok (.invokevirtual 90, 3) := by decide +kernel
theorem dX7_of_99 : decode cX7_of 99 = .ok (.ireturn, 1) := by decide +kernel
theorem dX7_of_100 : decode cX7_of 100 = .ok (.iload_n 3, 1) := by decide +kernel
theorem dX7_of_101 : decode cX7_of 101 = .ok (.ireturn, 1) := by decide +kernel
theorem dX7_of_102 : decode cX7_of 102 = .ok (.aload_n 0, 1) := by decide +kernel
theorem dX7_of_103 : decode cX7_of 103 = .ok (.getfield 28, 3) := by decide +kernel
theorem dX7_of_106 : decode cX7_of 106 = .ok (.iload_n 1, 1) := by decide +kernel
theorem dX7_of_107 : decode cX7_of 107 = .ok (.invokevirtual 167, 3) := by decide +kernel
theorem dX7_of_110 : decode cX7_of 110 = .ok (.ireturn, 1) := by decide +kernel
theorem dX7_of_111 : decode cX7_of 111 = .ok (.bipush (-2), 2) := by decide +kernel
theorem dX7_of_113 : decode cX7_of 113 = .ok (.ireturn, 1) := by decide +kernel
set_option maxRecDepth 20000 in
theorem ggX7_swap_X7_isOrderPlace : GoodIn wsX7_swap wsX7_isOrderPlace := goodIn_r _ [6, 1, 7, 8, 5, 9, 20, 21, 22, 23, 24, 25, 26, 27, 28, 29, 30, 31] (by decide +kernel) (by decide +kernel)
set_option maxRecDepth 20000 in
theorem gX7_swap_X7_isOrderPlace : GoodIn wsX7_swap (wsV RX7 154 RX7 yX7_isOrderPlace wsX7_isOrderPlace) := goodIn_app (goodIn_of _ (by decide +kernel)) ggX7_swap_X7_isOrderPlace
set_option maxRecDepth 20000 in
theorem ggX7_swap_X4_read : GoodIn wsX7_swap wsX4_read := goodIn_r _ [14, 15, 32] (by decide +kernel) (by decide +kernel)
set_option maxRecDepth 20000 in
theorem gX7_swap_X4_read : GoodIn wsX7_swap (wsV RX7 90 RX4 yX4_read wsX4_read) := goodIn_app (goodIn_of _ (by decide +kernel)) ggX7_swap_X4_read
set_option maxRecDepth 20000 in
theorem ggX7_swap_X4_write : GoodIn wsX7_swap wsX4_write := goodIn_r _ [19, 15, 32] (by decide +kernel) (by decide +kernel)
set_option maxRecDepth 20000 in
theorem gX7_swap_X4_write : GoodIn wsX7_swap (wsV RX7 111 RX4 yX4_write wsX4_write) := goodIn_app (goodIn_of _ (by decide +kernel)) ggX7_swap_X4_write
theorem dX7_swap_0 : decode cX7_swap 0 = .ok (.aload_n 0, 1) := by decide +kernel
theorem dX7_swap_1 : decode cX7_swap 1 = .ok (.iload_n 1, 1) := by decide +kernel
theorem dX7_swap_2 : decode cX7_swap 2 = .ok (.invokevirtual 154, 3) := by decide +kernel
theorem dX7_swap_5 : decode cX7_swap 5 = .ok (.ifCond .eq 11, 3) := by decide +kernel
theorem dX7_swap_8 : decode cX7_swap 8 = .ok (.aload_n 0, 1) := by decide +kernel
theorem dX7_swap_9 : decode cX7_swap 9 = .ok (.iload_n 2, 1) := by decide +kernel
theorem dX7_swap_10 : decode cX7_swap 10 = .ok (.invokevirtual 154, 3) := by decide +kernel
theorem dX7_swap_13 : decode cX7_swap 13 = .ok (.ifCond .ne 6, 3) := by decide +kernel
theorem dX7_swap_16 : decode cX7_swap 16 = .ok (.bipush (-2), 2) := by decide +kernel
theorem dX7_swap_18 : decode cX7_swap 18 = .ok (.ireturn, 1) := by decide +kernel
theorem dX7_swap_19 : decode cX7_swap 19 = .ok (.aload_n 0, 1) := by decide +kernel
theorem dX7_swap_20 : decode cX7_swap 20 = .ok (.getfield 28, 3) := by decide +kernel
theorem dX7_swap_23 : decode cX7_swap 23 = .ok (.getfield 157, 3) := by decide +kernel
theorem dX7_swap_26 : decode cX7_swap 26 = .ok (.iload_n 1, 1) := by decide +kernel
theorem dX7_swap_27 : decode cX7_swap 27 = .ok (.invokevirtual 90, 3) := by decide +kernel
theorem dX7_swap_30 : decode cX7_swap 30 = .ok (.istore_n 3, 1) := by decide +kernel
theorem dX7_swap_31 : decode cX7_swap 31 = .ok (.aload_n 0, 1) := by decide +kernel
theorem dX7_swap_32 : decode cX7_swap 32 = .ok (.getfield 28, 3) := by decide +kernel
theorem dX7_swap_35 : decode cX7_swap 35 = .ok (.getfield 157, 3) := by decide +kernel
theorem dX7_swap_38 : decode cX7_swap 38 = .ok (.iload_n 1, 1) := by decide +kernel
theorem dX7_swap_39 : decode cX7_swap 39 = .ok (.aload_n 0, 1) := by decide +kernel
theorem dX7_swap_40 : decode cX7_swap 40 = .ok (.getfield 28, 3) := by decide +kernel
theorem dX7_swap_43 : decode cX7_swap 43 = .ok (.getfield 157, 3) := by decide +kernel
theorem dX7_swap_46 : decode cX7_swap 46 = .ok (.iload_n 2, 1) := by decide +kernel
theorem dX7_swap_47 : decode cX7_swap 47 = .ok (.invokevirtual 90, 3) := by decide +kernel
theorem dX7_swap_50 : decode cX7_swap 50 = .ok (.invokevirtual 111, 3) := by decide +kernel
theorem dX7_swap_53 : decode cX7_swap 53 = .ok (.aload_n 0, 1) := by decide +kernel
theorem dX7_swap_54 : decode cX7_swap 54 = .ok (.getfield 28, 3) := by decide +kernel
theorem dX7_swap_57 : decode cX7_swap 57 = .ok (.getfield 157, 3) := by decide +kernel
theorem dX7_swap_60 : decode cX7_swap 60 = .ok (.iload_n 2, 1) := by decide +kernel
theorem dX7_swap_61 : decode cX7_swap 61 = .ok (.iload_n 3, 1) := by decide +kernel
theorem dX7_swap_62 : decode cX7_swap 62 = .ok (.invokevirtual 111, 3) := by decide +kernel
theorem dX7_swap_65 : decode cX7_swap 65 = .ok (.iconst 1, 1) := by decide +kernel
theorem dX7_swap_66 : decode cX7_swap 66 = .ok (.ireturn, 1) := by decide +kernel
set_option maxRecDepth 20000 in
theorem ggX7_undo_X4_read : GoodIn wsX7_undo wsX4_read := goodIn_r _ [7, 8, 45] (by decide +kernel) (by decide +kernel)
set_option maxRecDepth 20000 in
theorem gX7_undo_X4_read : GoodIn wsX7_undo (wsV RX7 90 RX4 yX4_read wsX4_read) := goodIn_app (goodIn_of _ (by decide +kernel)) ggX7_undo_X4_read
set_option maxRecDepth 20000 in
theorem ggX7_undo_X2_emptyBatch : GoodIn wsX7_undo wsX2_emptyBatch := goodIn_r _ [13, 14, 15, 16, 17, 4, 5, 6, 7, 8, 18, 19, 20, 21, 46, 47, 48, 49, 50, 51, 52, 45] (by decide +kernel) (by decide +kernel)
set_option maxRecDepth 20000 in
theorem gX7_undo_X2_emptyBatch : GoodIn wsX7_undo (wsV RX7 170 RX2 yX2_emptyBatch wsX2_emptyBatch) := goodIn_app (goodIn_of _ (by decide +kernel)) ggX7_undo_X2_emptyBatch
set_option maxRecDepth 20000 in
theorem ggX7_undo_X6_dropLast : GoodIn wsX7_undo wsX6_dropLast := goodIn_r _ [26, 27, 28, 29, 30, 31, 4, 5, 6, 7, 8, 32, 19, 20, 21, 40, 41, 42, 43, 44, 45] (by decide +kernel) (by decide +kernel)
set_option maxRecDepth 20000 in
theorem gX7_undo_X6_dropLast : GoodIn wsX7_undo (wsV RX7 174 RX6 yX6_dropLast wsX6_dropLast) := goodIn_app (goodIn_of _ (by decide +kernel)) ggX7_undo_X6_dropLast
theorem dX7_undo_0 : decode cX7_undo 0 = .ok (.aload_n 0, 1) := by decide +kernel
theorem dX7_undo_1 : decode cX7_undo 1 = .ok (.getfield 28, 3) := by decide +kernel
theorem dX7_undo_4 : decode cX7_undo 4 = .ok (.getfield 147, 3) := by decide +kernel
theorem dX7_undo_7 : decode cX7_undo 7 = .ok (.ifCond .ne 6, 3) := by decide +kernel
theorem dX7_undo_10 : decode cX7_undo 10 = .ok (.bipush (-4), 2) := by decide +kernel
theorem dX7_undo_12 : decode cX7_undo 12 = .ok (.ireturn, 1) := by decide +kernel
theorem dX7_undo_13 : decode cX7_undo 13 = .ok (.aload_n 0, 1) := by decide +kernel
theorem dX7_undo_14 : decode cX7_undo 14 = .ok (.getfield 28, 3) := by decide +kernel
theorem dX7_undo_17 : decode cX7_undo 17 = .ok (.getfield 157, 3) := by decide +kernel
theorem dX7_undo_20 : decode cX7_undo 20 = .ok (.aload_n 0, 1) := by decide +kernel
theorem dX7_undo_21 : decode cX7_undo 21 = .ok (.getfield 28, 3) := by decide +kernel
theorem dX7_undo_24 : decode cX7_undo 24 = .ok (.getfield 147, 3) := by decide +kernel
theorem dX7_undo_27 : decode cX7_undo 27 = .ok (.iconst 1, 1) := by decide +kernel
theorem dX7_undo_28 : decode cX7_undo 28 = .ok (.isub, 1) := by decide +kernel
theorem dX7_undo_29 : decode cX7_undo 29 = .ok (.invokevirtual 90, 3) := by decide +kernel
theorem dX7_undo_32 : decode cX7_undo 32 = .ok (.istore_n 1, 1) := by decide +kernel
theorem dX7_undo_33 : decode cX7_undo 33 = .ok (.aload_n 0, 1) := by decide +kernel
theorem dX7_undo_34 : decode cX7_undo 34 = .ok (.getfield 19, 3) := by decide +kernel
theorem dX7_undo_37 : decode cX7_undo 37 = .ok (.iload_n 1, 1) := by decide +kernel
theorem dX7_undo_38 : decode cX7_undo 38 = .ok (.invokevirtual 170, 3) := by decide +kernel
theorem dX7_undo_41 : decode cX7_undo 41 = .ok (.aload_n 0, 1) := by decide +kernel
theorem dX7_undo_42 : decode cX7_undo 42 = .ok (.getfield 28, 3) := by decide +kernel
theorem dX7_undo_45 : decode cX7_undo 45 = .ok (.iload_n 1, 1) := by decide +kernel
theorem dX7_undo_46 : decode cX7_undo 46 = .ok (.invokevirtual 174, 3) := by decide +kernel
theorem dX7_undo_49 : decode cX7_undo 49 = .ok (.aload_n 0, 1) := by decide +kernel
theorem dX7_undo_50 : decode cX7_undo 50 = .ok (.getfield 28, 3) := by decide +kernel
theorem dX7_undo_53 : decode cX7_undo 53 = .ok (.getfield 147, 3) := by decide +kernel
theorem dX7_undo_56 : decode cX7_undo 56 = .ok (.ireturn, 1) := by decide +kernel
set_option maxRecDepth 20000 in
theorem ggX7_between_X7_isKind : GoodIn wsX7_between wsX7_isKind := goodIn_r _ [6, 1, 7, 8, 5, 9, 31, 32, 33, 34, 35, 36, 37, 38, 39, 40, 41, 42, 43] (by decide +kernel) (by decide +kernel)
set_option maxRecDepth 20000 in
theorem gX7_between_X7_isKind : GoodIn wsX7_between (wsV RX7 72 RX7 yX7_isKind wsX7_isKind) := goodIn_app (goodIn_of _ (by decide +kernel)) ggX7_between_X7_isKind
set_option maxRecDepth 20000 in
theorem ggX7_between_X1_gap : GoodIn wsX7_between wsX1_gap := goodIn_r _ [14, 15, 16, 17, 18, 19, 20, 21, 22, 23, 24, 25, 26, 27, 28, 29, 30, 38, 39, 40, 41, 42, 43, 44] (by decide +kernel) (by decide +kernel)
set_option maxRecDepth 20000 in
theorem gX7_between_X1_gap : GoodIn wsX7_between (wsV RX7 177 RX1 yX1_gap wsX1_gap) := goodIn_app (goodIn_of _ (by decide +kernel)) ggX7_between_X1_gap
theorem dX7_between_0 : decode cX7_between 0 = .ok (.aload_n 0, 1) := by decide +kernel
theorem dX7_between_1 : decode cX7_between 1 = .ok (.iload_n 1, 1) := by decide +kernel
theorem dX7_between_2 : decode cX7_between 2 = .ok (.invokevirtual 72, 3) := by decide +kernel
theorem dX7_between_5 : decode cX7_between 5 = .ok (.ifCond .eq 23, 3) := by decide +kernel
theorem dX7_between_8 : decode cX7_between 8 = .ok (.aload_n 0, 1) := by decide +kernel
theorem dX7_between_9 : decode cX7_between 9 = .ok (.iload_n 2, 1) := by decide +kernel
theorem dX7_between_10 : decode cX7_between 10 = .ok (.invokevirtual 72, 3) := by decide +kernel
theorem dX7_between_13 : decode cX7_between 13 = .ok (.ifCond .eq 15, 3) := by decide +kernel
theorem dX7_between_16 : decode cX7_between 16 = .ok (.aload_n 0, 1) := by decide +kernel
theorem dX7_between_17 : decode cX7_between 17 = .ok (.getfield 12, 3) := by decide +kernel
theorem dX7_between_20 : decode cX7_between 20 = .ok (.iload_n 1, 1) := by decide +kernel
theorem dX7_between_21 : decode cX7_between 21 = .ok (.iload_n 2, 1) := by decide +kernel
theorem dX7_between_22 : decode cX7_between 22 = .ok (.invokevirtual 177, 3) := by decide +kernel
theorem dX7_between_25 : decode cX7_between 25 = .ok (.goto 5, 3) := by decide +kernel
theorem dX7_between_28 : decode cX7_between 28 = .ok (.bipush (-2), 2) := by decide +kernel
theorem dX7_between_30 : decode cX7_between 30 = .ok (.ireturn, 1) := by decide +kernel
set_option maxRecDepth 20000 in
theorem ggX7_empties_X6_gapsInOrder : GoodIn wsX7_empties wsX6_gapsInOrder := goodIn_r _ [6, 7, 8, 9, 10, 5, 11, 12, 13, 14, 15, 16, 17, 18, 19, 20, 21, 22, 23, 24, 25, 26, 27, 28, 29, 30, 31, 32, 33, 34, 35, 36, 37, 38, 39, 40, 48, 49, 50, 51, 52, 53, 54, 55, 56, 57, 58, 59] (by decide +kernel) (by decide +kernel)
set_option maxRecDepth 20000 in
theorem gX7_empties_X6_gapsInOrder : GoodIn wsX7_empties (wsV RX7 180 RX6 yX6_gapsInOrder wsX6_gapsInOrder) := goodIn_app (goodIn_of _ (by decide +kernel)) ggX7_empties_X6_gapsInOrder
theorem dX7_empties_0 : decode cX7_empties 0 = .ok (.aload_n 0, 1) := by decide +kernel
theorem dX7_empties_1 : decode cX7_empties 1 = .ok (.getfield 28, 3) := by decide +kernel
theorem dX7_empties_4 : decode cX7_empties 4 = .ok (.invokevirtual 180, 3) := by decide +kernel
theorem dX7_empties_7 : decode cX7_empties 7 = .ok (.ireturn, 1) := by decide +kernel
set_option maxRecDepth 20000 in
theorem ggX7_plan_X3_orderBest : GoodIn wsX7_plan wsX3_orderBest := goodIn_r _ [7, 8, 9, 10, 11, 6, 12, 13, 14, 15, 16, 17, 18, 19, 20, 21, 22, 23, 24, 25, 26, 27, 28, 29, 30, 31, 32, 33, 34, 35, 36, 37, 38, 39, 40, 41, 42, 43, 44, 45, 46, 47, 48, 49, 50, 51, 52, 53, 54, 55, 56, 57, 58, 59, 60, 84, 85, 86, 79, 80, 81, 82, 83, 87, 88, 89, 90, 91, 92, 93] (by decide +kernel) (by decide +kernel)
set_option maxRecDepth 20000 in
theorem gX7_plan_X3_orderBest : GoodIn wsX7_plan (wsV RX7 184 RX3 yX3_orderBest wsX3_orderBest) := goodIn_app (goodIn_of _ (by decide +kernel)) ggX7_plan_X3_orderBest
set_option maxRecDepth 20000 in
theorem ggX7_plan_X6_gapsInOrder : GoodIn wsX7_plan wsX6_gapsInOrder := goodIn_r _ [64, 65, 66, 67, 68, 17, 69, 70, 21, 22, 23, 24, 25, 26, 71, 15, 16, 18, 19, 20, 27, 28, 29, 30, 31, 32, 33, 34, 35, 36, 37, 38, 39, 40, 41, 42, 79, 80, 81, 82, 83, 87, 88, 89, 90, 91, 92, 93] (by decide +kernel) (by decide +kernel)
set_option maxRecDepth 20000 in
theorem gX7_plan_X6_gapsInOrder : GoodIn wsX7_plan (wsV RX7 180 RX6 yX6_gapsInOrder wsX6_gapsInOrder) := goodIn_app (goodIn_of _ (by decide +kernel)) ggX7_plan_X6_gapsInOrder
theorem dX7_plan_0 : decode cX7_plan 0 = .ok (.aload_n 0, 1) := by decide +kernel
theorem dX7_plan_1 : decode cX7_plan 1 = .ok (.getfield 28, 3) := by decide +kernel
theorem dX7_plan_4 : decode cX7_plan 4 = .ok (.getfield 147, 3) := by decide +kernel
theorem dX7_plan_7 : decode cX7_plan 7 = .ok (.bipush 8, 2) := by decide +kernel
theorem dX7_plan_9 : decode cX7_plan 9 = .ok (.if_icmp .le 6, 3) := by decide +kernel
theorem dX7_plan_12 : decode cX7_plan 12 = .ok (.bipush (-4), 2) := by decide +kernel
theorem dX7_plan_14 : decode cX7_plan 14 = .ok (.ireturn, 1) := by decide +kernel
theorem dX7_plan_15 : decode cX7_plan 15 = .ok (.aload_n 0, 1) := by decide +kernel
theorem dX7_plan_16 : decode cX7_plan 16 = .ok (.getfield 37, 3) := by decide +kernel
theorem dX7_plan_19 : decode cX7_plan 19 = .ok (.invokevirtual 184, 3) := by decide +kernel
theorem dX7_plan_22 : decode cX7_plan 22 = .ok (.aload_n 0, 1) := by decide +kernel
theorem dX7_plan_23 : decode cX7_plan 23 = .ok (.getfield 28, 3) := by decide +kernel
theorem dX7_plan_26 : decode cX7_plan 26 = .ok (.invokevirtual 180, 3) := by decide +kernel
theorem dX7_plan_29 : decode cX7_plan 29 = .ok (.ireturn, 1) := by decide +kernel
set_option maxRecDepth 20000 in
theorem ggX7_greedy_X6_orderByNext : GoodIn wsX7_greedy wsX6_orderByNext := goodIn_r _ [6, 7, 8, 9, 10, 11, 12, 13, 14, 15, 16, 17, 5, 18, 19, 20, 21, 22, 23, 24, 25, 26, 27, 28, 29, 30, 31, 32, 33, 34, 35, 36, 37, 38, 39, 40, 41, 42, 43, 44, 60, 61, 62, 63, 64, 65, 66, 67, 68, 69, 70, 71] (by decide +kernel) (by decide +kernel)
set_option maxRecDepth 20000 in
theorem gX7_greedy_X6_orderByNext : GoodIn wsX7_greedy (wsV RX7 187 RX6 yX6_orderByNext wsX6_orderByNext) := goodIn_app (goodIn_of _ (by decide +kernel)) ggX7_greedy_X6_orderByNext
set_option maxRecDepth 20000 in
theorem ggX7_greedy_X6_gapsInOrder : GoodIn wsX7_greedy wsX6_gapsInOrder := goodIn_r _ [48, 7, 49, 50, 51, 5, 52, 8, 9, 10, 11, 12, 13, 14, 19, 20, 21, 22, 23, 24, 25, 26, 27, 28, 29, 30, 31, 32, 33, 34, 35, 36, 37, 38, 39, 40, 60, 61, 62, 63, 64, 65, 66, 67, 68, 69, 70, 71] (by decide +kernel) (by decide +kernel)
set_option maxRecDepth 20000 in
theorem gX7_greedy_X6_gapsInOrder : GoodIn wsX7_greedy (wsV RX7 180 RX6 yX6_gapsInOrder wsX6_gapsInOrder) := goodIn_app (goodIn_of _ (by decide +kernel)) ggX7_greedy_X6_gapsInOrder
theorem dX7_greedy_0 : decode cX7_greedy 0 = .ok (.aload_n 0, 1) := by decide +kernel
theorem dX7_greedy_1 : decode cX7_greedy 1 = .ok (.getfield 28, 3) := by decide +kernel
theorem dX7_greedy_4 : decode cX7_greedy 4 = .ok (.invokevirtual 187, 3) := by decide +kernel
theorem dX7_greedy_7 : decode cX7_greedy 7 = .ok (.aload_n 0, 1) := by decide +kernel
theorem dX7_greedy_8 : decode cX7_greedy 8 = .ok (.getfield 28, 3) := by decide +kernel
theorem dX7_greedy_11 : decode cX7_greedy 11 = .ok (.invokevirtual 180, 3) := by decide +kernel
theorem dX7_greedy_14 : decode cX7_greedy 14 = .ok (.ireturn, 1) := by decide +kernel
set_option maxRecDepth 20000 in
theorem ggX7_tunnel_X7_within : GoodIn wsX7_tunnel wsX7_within := goodIn_r _ [5] (by decide +kernel) (by decide +kernel)
set_option maxRecDepth 20000 in
theorem gX7_tunnel_X7_within : GoodIn wsX7_tunnel (va_wsS RX7 61 yX7_within wsX7_within) := goodIn_app (goodIn_of _ (by decide +kernel)) ggX7_tunnel_X7_within
theorem dX7_tunnel_0 : decode cX7_tunnel 0 = .ok (.iload_n 1, 1) := by decide +kernel
theorem dX7_tunnel_1 : decode cX7_tunnel 1 = .ok (.iconst 2, 1) := by decide +kernel
theorem dX7_tunnel_2 : decode cX7_tunnel 2 = .ok (.bipush 10, 2) := by decide +kernel
theorem dX7_tunnel_4 : decode cX7_tunnel 4 = .ok (.invokestatic 61, 3) := by decide +kernel
theorem dX7_tunnel_7 : decode cX7_tunnel 7 = .ok (.ifCond .eq 21, 3) := by decide +kernel
theorem dX7_tunnel_10 : decode cX7_tunnel 10 = .ok (.iload_n 2, 1) := by decide +kernel
theorem dX7_tunnel_11 : decode cX7_tunnel 11 = .ok (.iconst 1, 1) := by decide +kernel
theorem dX7_tunnel_12 : decode cX7_tunnel 12 = .ok (.iconst 4, 1) := by decide +kernel
theorem dX7_tunnel_13 : decode cX7_tunnel 13 = .ok (.invokestatic 61, 3) := by decide +kernel
theorem dX7_tunnel_16 : decode cX7_tunnel 16 = .ok (.ifCond .eq 12, 3) := by decide +kernel
theorem dX7_tunnel_19 : decode cX7_tunnel 19 = .ok (.iload_n 3, 1) := by decide +kernel
theorem dX7_tunnel_20 : decode cX7_tunnel 20 = .ok (.iconst 1, 1) := by decide +kernel
theorem dX7_tunnel_21 : decode cX7_tunnel 21 = .ok (.iconst 3, 1) := by decide +kernel
theorem dX7_tunnel_22 : decode cX7_tunnel 22 = .ok (.invokestatic 61, 3) := by decide +kernel
theorem dX7_tunnel_25 : decode cX7_tunnel 25 = .ok (.ifCond .ne 6, 3) := by decide +kernel
theorem dX7_tunnel_28 : decode cX7_tunnel 28 = .ok (.bipush (-2), 2) := by decide +kernel
theorem dX7_tunnel_30 : decode cX7_tunnel 30 = .ok (.ireturn, 1) := by decide +kernel
theorem dX7_tunnel_31 : decode cX7_tunnel 31 = .ok (.aload_n 0, 1) := by decide +kernel
theorem dX7_tunnel_32 : decode cX7_tunnel 32 = .ok (.getfield 46, 3) := by decide +kernel
theorem dX7_tunnel_35 : decode cX7_tunnel 35 = .ok (.iload_n 1, 1) := by decide +kernel
theorem dX7_tunnel_36 : decode cX7_tunnel 36 = .ok (.putfield 190, 3) := by decide +kernel
theorem dX7_tunnel_39 : decode cX7_tunnel 39 = .ok (.aload_n 0, 1) := by decide +kernel
theorem dX7_tunnel_40 : decode cX7_tunnel 40 = .ok (.getfield 46, 3) := by decide +kernel
theorem dX7_tunnel_43 : decode cX7_tunnel 43 = .ok (.iload_n 2, 1) := by decide +kernel
theorem dX7_tunnel_44 : decode cX7_tunnel 44 = .ok (.putfield 193, 3) := by decide +kernel
theorem dX7_tunnel_47 : decode cX7_tunnel 47 = .ok (.aload_n 0, 1) := by decide +kernel
theorem dX7_tunnel_48 : decode cX7_tunnel 48 = .ok (.getfield 46, 3) := by decide +kernel
theorem dX7_tunnel_51 : decode cX7_tunnel 51 = .ok (.iload_n 3, 1) := by decide +kernel
theorem dX7_tunnel_52 : decode cX7_tunnel 52 = .ok (.putfield 196, 3) := by decide +kernel
theorem dX7_tunnel_55 : decode cX7_tunnel 55 = .ok (.iconst 1, 1) := by decide +kernel
theorem dX7_tunnel_56 : decode cX7_tunnel 56 = .ok (.ireturn, 1) := by decide +kernel
set_option maxRecDepth 20000 in
theorem ggX7_wash_X0_washOrder : GoodIn wsX7_wash wsX0_washOrder := goodIn_r _ [8, 9, 10, 11, 12, 13, 14, 15, 16, 7, 17, 18, 19, 20, 21, 22, 23, 24, 25, 26, 27, 28, 29, 30, 31, 32, 33, 34, 35, 36, 37, 38, 39, 40, 41, 42, 43, 44, 45, 46, 47, 48, 49, 50, 51, 52, 53, 54, 55, 56, 57, 58, 59, 60, 61, 62, 63, 64, 65, 66, 67, 68, 69, 70, 71, 72, 73, 74, 75, 76, 77, 78, 79, 80, 81, 82, 83, 84, 85, 86, 87, 88, 89, 90, 91, 92, 93, 94, 95, 96, 97, 98, 99, 100, 101, 102, 103, 104, 105, 106, 107, 108, 109, 110, 111, 112, 113, 114, 115, 116, 117, 118, 119, 120, 121, 122, 123, 124, 125, 126, 127, 128, 129, 130, 131, 132, 133, 134, 135, 136, 137, 161, 162, 163, 164, 165, 166, 167, 168, 169, 170, 171, 172, 173, 174, 175, 176, 156, 157, 158, 159, 160, 177, 178, 179, 180, 181, 182, 183] (by decide +kernel) (by decide +kernel)
set_option maxRecDepth 20000 in
theorem gX7_wash_X0_washOrder : GoodIn wsX7_wash (wsV RX7 199 RX0 yX0_washOrder wsX0_washOrder) := goodIn_app (goodIn_of _ (by decide +kernel)) ggX7_wash_X0_washOrder
set_option maxRecDepth 20000 in
theorem ggX7_wash_X2_cleanBatches : GoodIn wsX7_wash wsX2_cleanBatches := goodIn_r _ [142, 143, 144, 145, 146, 147, 36, 37, 27, 38, 29, 148, 74, 75, 76, 184, 185, 186, 187, 188, 189, 190, 177] (by decide +kernel) (by decide +kernel)
set_option maxRecDepth 20000 in
theorem gX7_wash_X2_cleanBatches : GoodIn wsX7_wash (wsV RX7 202 RX2 yX2_cleanBatches wsX2_cleanBatches) := goodIn_app (goodIn_of _ (by decide +kernel)) ggX7_wash_X2_cleanBatches
theorem dX7_wash_0 : decode cX7_wash 0 = .ok (.aload_n 0, 1) := by decide +kernel
theorem dX7_wash_1 : decode cX7_wash 1 = .ok (.getfield 28, 3) := by decide +kernel
theorem dX7_wash_4 : decode cX7_wash 4 = .ok (.getfield 147, 3) := by decide +kernel
theorem dX7_wash_7 : decode cX7_wash 7 = .ok (.ifCond .ne 6, 3) := by decide +kernel
theorem dX7_wash_10 : decode cX7_wash 10 = .ok (.bipush (-4), 2) := by decide +kernel
theorem dX7_wash_12 : decode cX7_wash 12 = .ok (.ireturn, 1) := by decide +kernel
theorem dX7_wash_13 : decode cX7_wash 13 = .ok (.aload_n 0, 1) := by decide +kernel
theorem dX7_wash_14 : decode cX7_wash 14 = .ok (.getfield 46, 3) := by decide +kernel
theorem dX7_wash_17 : decode cX7_wash 17 = .ok (.invokevirtual 199, 3) := by decide +kernel
theorem dX7_wash_20 : decode cX7_wash 20 = .ok (.istore_n 1, 1) := by decide +kernel
theorem dX7_wash_21 : decode cX7_wash 21 = .ok (.aload_n 0, 1) := by decide +kernel
theorem dX7_wash_22 : decode cX7_wash 22 = .ok (.getfield 19, 3) := by decide +kernel
theorem dX7_wash_25 : decode cX7_wash 25 = .ok (.invokevirtual 202, 3) := by decide +kernel
theorem dX7_wash_28 : decode cX7_wash 28 = .ok (.aload_n 0, 1) := by decide +kernel
theorem dX7_wash_29 : decode cX7_wash 29 = .ok (.getfield 28, 3) := by decide +kernel
theorem dX7_wash_32 : decode cX7_wash 32 = .ok (.iconst 0, 1) := by decide +kernel
theorem dX7_wash_33 : decode cX7_wash 33 = .ok (.putfield 147, 3) := by decide +kernel
theorem dX7_wash_36 : decode cX7_wash 36 = .ok (.iload_n 1, 1) := by decide +kernel
theorem dX7_wash_37 : decode cX7_wash 37 = .ok (.ireturn, 1) := by decide +kernel
set_option maxRecDepth 20000 in
theorem ggX7_washed_X7_within : GoodIn wsX7_washed wsX7_within := goodIn_r _ [5] (by decide +kernel) (by decide +kernel)
set_option maxRecDepth 20000 in
theorem gX7_washed_X7_within : GoodIn wsX7_washed (va_wsS RX7 61 yX7_within wsX7_within) := goodIn_app (goodIn_of _ (by decide +kernel)) ggX7_washed_X7_within
set_option maxRecDepth 20000 in
theorem ggX7_washed_X4_read : GoodIn wsX7_washed wsX4_read := goodIn_r _ [10, 11, 35] (by decide +kernel) (by decide +kernel)
set_option maxRecDepth 20000 in
theorem gX7_washed_X4_read : GoodIn wsX7_washed (wsV RX7 90 RX4 yX4_read wsX4_read) := goodIn_app (goodIn_of _ (by decide +kernel)) ggX7_washed_X4_read
theorem dX7_washed_0 : decode cX7_washed 0 = .ok (.iload_n 1, 1) := by decide +kernel
theorem dX7_washed_1 : decode cX7_washed 1 = .ok (.iconst 0, 1) := by decide +kernel
theorem dX7_washed_2 : decode cX7_washed 2 = .ok (.bipush 6, 2) := by decide +kernel
theorem dX7_washed_4 : decode cX7_washed 4 = .ok (.invokestatic 61, 3) := by decide +kernel
theorem dX7_washed_7 : decode cX7_washed 7 = .ok (.ifCond .eq 17, 3) := by decide +kernel
theorem dX7_washed_10 : decode cX7_washed 10 = .ok (.aload_n 0, 1) := by decide +kernel
theorem dX7_washed_11 : decode cX7_washed 11 = .ok (.getfield 46, 3) := by decide +kernel
theorem dX7_washed_14 : decode cX7_washed 14 = .ok (.getfield 205, 3) := by decide +kernel
theorem dX7_washed_17 : decode cX7_washed 17 = .ok (.iload_n 1, 1) := by decide +kernel
theorem dX7_washed_18 : decode cX7_washed 18 = .ok (.invokevirtual 90, 3) := by decide +kernel
theorem dX7_washed_21 : decode cX7_washed 21 = .ok (.goto 5, 3) := by decide +kernel
theorem dX7_washed_24 : decode cX7_washed 24 = .ok (.bipush (-2), 2) := by decide +kernel
theorem dX7_washed_26 : decode cX7_washed 26 = .ok (.ireturn, 1) := by decide +kernel
set_option maxRecDepth 20000 in
theorem ggX7_run_X4_read : GoodIn wsX7_run wsX4_read := goodIn_r _ [6, 7, 42] (by decide +kernel) (by decide +kernel)
set_option maxRecDepth 20000 in
theorem gX7_run_X4_read : GoodIn wsX7_run (wsV RX7 90 RX4 yX4_read wsX4_read) := goodIn_app (goodIn_of _ (by decide +kernel)) ggX7_run_X4_read
set_option maxRecDepth 20000 in
theorem ggX7_run_X7_within : GoodIn wsX7_run wsX7_within := goodIn_r _ [11] (by decide +kernel) (by decide +kernel)
set_option maxRecDepth 20000 in
theorem gX7_run_X7_within : GoodIn wsX7_run (va_wsS RX7 61 yX7_within wsX7_within) := goodIn_app (goodIn_of _ (by decide +kernel)) ggX7_run_X7_within
set_option maxRecDepth 20000 in
theorem ggX7_run_X0_fact : GoodIn wsX7_run wsX0_fact := goodIn_r _ [16, 17, 18, 3, 4, 5, 6, 7, 26, 27, 28, 29, 30, 31, 32, 33, 34, 35, 36, 37, 38, 39, 40, 41, 42] (by decide +kernel) (by decide +kernel)
set_option maxRecDepth 20000 in
theorem gX7_run_X0_fact : GoodIn wsX7_run (wsV RX7 208 RX0 yX0_fact wsX0_fact) := goodIn_app (goodIn_of _ (by decide +kernel)) ggX7_run_X0_fact
theorem dX7_run_0 : decode cX7_run 0 = .ok (.iload_n 1, 1) := by decide +kernel
theorem dX7_run_1 : decode cX7_run 1 = .ok (.iconst 0, 1) := by decide +kernel
theorem dX7_run_2 : decode cX7_run 2 = .ok (.aload_n 0, 1) := by decide +kernel
theorem dX7_run_3 : decode cX7_run 3 = .ok (.getfield 46, 3) := by decide +kernel
theorem dX7_run_6 : decode cX7_run 6 = .ok (.getfield 205, 3) := by decide +kernel
theorem dX7_run_9 : decode cX7_run 9 = .ok (.iconst 5, 1) := by decide +kernel
theorem dX7_run_10 : decode cX7_run 10 = .ok (.invokevirtual 90, 3) := by decide +kernel
theorem dX7_run_13 : decode cX7_run 13 = .ok (.iconst 1, 1) := by decide +kernel
theorem dX7_run_14 : decode cX7_run 14 = .ok (.isub, 1) := by decide +kernel
theorem dX7_run_15 : decode cX7_run 15 = .ok (.invokestatic 61, 3) := by decide +kernel
theorem dX7_run_18 : decode cX7_run 18 = .ok (.ifCond .eq 13, 3) := by decide +kernel
theorem dX7_run_21 : decode cX7_run 21 = .ok (.iload_n 2, 1) := by decide +kernel
theorem dX7_run_22 : decode cX7_run 22 = .ok (.iconst 0, 1) := by decide +kernel
theorem dX7_run_23 : decode cX7_run 23 = .ok (.bipush 6, 2) := by decide +kernel
theorem dX7_run_25 : decode cX7_run 25 = .ok (.invokestatic 61, 3) := by decide +kernel
theorem dX7_run_28 : decode cX7_run 28 = .ok (.ifCond .ne 6, 3) := by decide +kernel
theorem dX7_run_31 : decode cX7_run 31 = .ok (.bipush (-2), 2) := by decide +kernel
theorem dX7_run_33 : decode cX7_run 33 = .ok (.ireturn, 1) := by decide +kernel
theorem dX7_run_34 : decode cX7_run 34 = .ok (.aload_n 0, 1) := by decide +kernel
theorem dX7_run_35 : decode cX7_run 35 = .ok (.getfield 46, 3) := by decide +kernel
theorem dX7_run_38 : decode cX7_run 38 = .ok (.iload_n 1, 1) := by decide +kernel
theorem dX7_run_39 : decode cX7_run 39 = .ok (.iload_n 2, 1) := by decide +kernel
theorem dX7_run_40 : decode cX7_run 40 = .ok (.invokevirtual 208, 3) := by decide +kernel
theorem dX7_run_43 : decode cX7_run 43 = .ok (.ireturn, 1) := by decide +kernel
set_option maxRecDepth 20000 in
theorem ggX7_pack_X7_isOwner : GoodIn wsX7_pack wsX7_isOwner := goodIn_r _ [5, 6, 7, 4, 8] (by decide +kernel) (by decide +kernel)
set_option maxRecDepth 20000 in
theorem gX7_pack_X7_isOwner : GoodIn wsX7_pack (va_wsS RX7 76 yX7_isOwner wsX7_isOwner) := goodIn_app (goodIn_of _ (by decide +kernel)) ggX7_pack_X7_isOwner
set_option maxRecDepth 20000 in
theorem ggX7_pack_X7_isKind : GoodIn wsX7_pack wsX7_isKind := goodIn_r _ [12, 13, 6, 7, 4, 8, 41, 42, 43, 44, 45, 46, 47, 48, 49, 50, 51, 52, 53] (by decide +kernel) (by decide +kernel)
set_option maxRecDepth 20000 in
theorem gX7_pack_X7_isKind : GoodIn wsX7_pack (wsV RX7 72 RX7 yX7_isKind wsX7_isKind) := goodIn_app (goodIn_of _ (by decide +kernel)) ggX7_pack_X7_isKind
set_option maxRecDepth 20000 in
theorem ggX7_pack_X7_within : GoodIn wsX7_pack wsX7_within := goodIn_r _ [8] (by decide +kernel) (by decide +kernel)
set_option maxRecDepth 20000 in
theorem gX7_pack_X7_within : GoodIn wsX7_pack (va_wsS RX7 61 yX7_within wsX7_within) := goodIn_app (goodIn_of _ (by decide +kernel)) ggX7_pack_X7_within
set_option maxRecDepth 20000 in
theorem ggX7_pack_X2_tally : GoodIn wsX7_pack wsX2_tally := goodIn_r _ [18, 19, 20, 21, 22, 17, 23, 24, 25, 26, 27, 28, 29, 30, 31, 32, 54, 55, 56, 57, 58, 59, 60, 61] (by decide +kernel) (by decide +kernel)
set_option maxRecDepth 20000 in
theorem gX7_pack_X2_tally : GoodIn wsX7_pack (wsV RX7 128 RX2 yX2_tally wsX2_tally) := goodIn_app (goodIn_of _ (by decide +kernel)) ggX7_pack_X2_tally
set_option maxRecDepth 20000 in
theorem ggX7_pack_X2_sendOut : GoodIn wsX7_pack wsX2_sendOut := goodIn_r _ [36, 19, 24, 20, 21, 22, 17, 23, 25, 26, 27, 28, 29, 30, 31, 32, 37, 38, 39, 40, 54, 55, 56, 57, 58, 59, 60, 61] (by decide +kernel) (by decide +kernel)
set_option maxRecDepth 20000 in
theorem gX7_pack_X2_sendOut : GoodIn wsX7_pack (wsV RX7 211 RX2 yX2_sendOut wsX2_sendOut) := goodIn_app (goodIn_of _ (by decide +kernel)) ggX7_pack_X2_sendOut
theorem dX7_pack_0 : decode cX7_pack 0 = .ok (.iload_n 1, 1) := by decide +kernel
theorem dX7_pack_1 : decode cX7_pack 1 = .ok (.invokestatic 76, 3) := by decide +kernel
theorem dX7_pack_4 : decode cX7_pack 4 = .ok (.ifCond .eq 21, 3) := by decide +kernel
theorem dX7_pack_7 : decode cX7_pack 7 = .ok (.aload_n 0, 1) := by decide +kernel
theorem dX7_pack_8 : decode cX7_pack 8 = .ok (.iload_n 2, 1) := by decide +kernel
theorem dX7_pack_9 : decode cX7_pack 9 = .ok (.invokevirtual 72, 3) := by decide +kernel
theorem dX7_pack_12 : decode cX7_pack 12 = .ok (.ifCond .eq 13, 3) := by decide +kernel
theorem dX7_pack_15 : decode cX7_pack 15 = .ok (.iload_n 3, 1) := by decide +kernel
theorem dX7_pack_16 : decode cX7_pack 16 = .ok (.iconst 1, 1) := by decide +kernel
theorem dX7_pack_17 : decode cX7_pack 17 = .ok (.bipush 40, 2) := by decide +kernel
theorem dX7_pack_19 : decode cX7_pack 19 = .ok (.invokestatic 61, 3) := by decide +kernel
theorem dX7_pack_22 : decode cX7_pack 22 = .ok (.ifCond .ne 6, 3) := by decide +kernel
theorem dX7_pack_25 : decode cX7_pack 25 = .ok (.bipush (-2), 2) := by decide +kernel
theorem dX7_pack_27 : decode cX7_pack 27 = .ok (.ireturn, 1) := by decide +kernel
theorem dX7_pack_28 : decode cX7_pack 28 = .ok (.iload_n 3, 1) := by decide +kernel
theorem dX7_pack_29 : decode cX7_pack 29 = .ok (.aload_n 0, 1) := by decide +kernel
theorem dX7_pack_30 : decode cX7_pack 30 = .ok (.getfield 19, 3) := by decide +kernel
theorem dX7_pack_33 : decode cX7_pack 33 = .ok (.iload_n 1, 1) := by decide +kernel
theorem dX7_pack_34 : decode cX7_pack 34 = .ok (.iload_n 2, 1) := by decide +kernel
theorem dX7_pack_35 : decode cX7_pack 35 = .ok (.iconst 3, 1) := by decide +kernel
theorem dX7_pack_36 : decode cX7_pack 36 = .ok (.invokevirtual 128, 3) := by decide +kernel
theorem dX7_pack_39 : decode cX7_pack 39 = .ok (.isub, 1) := by decide +kernel
theorem dX7_pack_40 : decode cX7_pack 40 = .ok (.istore 4, 2) := by decide +kernel
theorem dX7_pack_42 : decode cX7_pack 42 = .ok (.iload 4, 2) := by decide +kernel
theorem dX7_pack_44 : decode cX7_pack 44 = .ok (.ifCond .le 9, 3) := by decide +kernel
theorem dX7_pack_47 : decode cX7_pack 47 = .ok (.bipush (-100), 2) := by decide +kernel
theorem dX7_pack_49 : decode cX7_pack 49 = .ok (.iload 4, 2) := by decide +kernel
theorem dX7_pack_51 : decode cX7_pack 51 = .ok (.isub, 1) := by decide +kernel
theorem dX7_pack_52 : decode cX7_pack 52 = .ok (.ireturn, 1) := by decide +kernel
theorem dX7_pack_53 : decode cX7_pack 53 = .ok (.aload_n 0, 1) := by decide +kernel
theorem dX7_pack_54 : decode cX7_pack 54 = .ok (.getfield 19, 3) := by decide +kernel
theorem dX7_pack_57 : decode cX7_pack 57 = .ok (.iload_n 1, 1) := by decide +kernel
theorem dX7_pack_58 : decode cX7_pack 58 = .ok (.iload_n 2, 1) := by decide +kernel
theorem dX7_pack_59 : decode cX7_pack 59 = .ok (.iload_n 3, 1) := by decide +kernel
theorem dX7_pack_60 : decode cX7_pack 60 = .ok (.invokevirtual 211, 3) := by decide +kernel
theorem dX7_pack_63 : decode cX7_pack 63 = .ok (.ireturn, 1) := by decide +kernel
set_option maxRecDepth 20000 in
theorem ggX7_sheet_X7_isSheet : GoodIn wsX7_sheet wsX7_isSheet := goodIn_r _ [5, 6, 7, 4, 8] (by decide +kernel) (by decide +kernel)
set_option maxRecDepth 20000 in
theorem gX7_sheet_X7_isSheet : GoodIn wsX7_sheet (va_wsS RX7 132 yX7_isSheet wsX7_isSheet) := goodIn_app (goodIn_of _ (by decide +kernel)) ggX7_sheet_X7_isSheet
set_option maxRecDepth 20000 in
theorem ggX7_sheet_X7_isForm : GoodIn wsX7_sheet wsX7_isForm := goodIn_r _ [11, 6, 7, 4, 8] (by decide +kernel) (by decide +kernel)
set_option maxRecDepth 20000 in
theorem gX7_sheet_X7_isForm : GoodIn wsX7_sheet (va_wsS RX7 214 yX7_isForm wsX7_isForm) := goodIn_app (goodIn_of _ (by decide +kernel)) ggX7_sheet_X7_isForm
set_option maxRecDepth 20000 in
theorem ggX7_sheet_X7_find : GoodIn wsX7_sheet wsX7_find := goodIn_r _ [15, 16, 31, 32, 33, 34, 35, 36, 37] (by decide +kernel) (by decide +kernel)
set_option maxRecDepth 20000 in
theorem gX7_sheet_X7_find : GoodIn wsX7_sheet (wsV RX7 138 RX7 yX7_find wsX7_find) := goodIn_app (goodIn_of _ (by decide +kernel)) ggX7_sheet_X7_find
set_option maxRecDepth 20000 in
theorem ggX7_sheet_X5_renew : GoodIn wsX7_sheet wsX5_renew := goodIn_r _ [21, 22, 23, 24, 25, 26, 27, 28, 29, 30, 38, 39, 40, 41] (by decide +kernel) (by decide +kernel)
set_option maxRecDepth 20000 in
theorem gX7_sheet_X5_renew : GoodIn wsX7_sheet (wsV RX7 217 RX5 yX5_renew wsX5_renew) := goodIn_app (goodIn_of _ (by decide +kernel)) ggX7_sheet_X5_renew
theorem dX7_sheet_0 : decode cX7_sheet 0 = .ok (.iload_n 1, 1) := by decide +kernel
theorem dX7_sheet_1 : decode cX7_sheet 1 = .ok (.invokestatic 132, 3) := by decide +kernel
theorem dX7_sheet_4 : decode cX7_sheet 4 = .ok (.ifCond .eq 16, 3) := by decide +kernel
theorem dX7_sheet_7 : decode cX7_sheet 7 = .ok (.iload_n 2, 1) := by decide +kernel
theorem dX7_sheet_8 : decode cX7_sheet 8 = .ok (.invokestatic 214, 3) := by decide +kernel
theorem dX7_sheet_11 : decode cX7_sheet 11 = .ok (.ifCond .eq 9, 3) := by decide +kernel
theorem dX7_sheet_14 : decode cX7_sheet 14 = .ok (.iload_n 3, 1) := by decide +kernel
theorem dX7_sheet_15 : decode cX7_sheet 15 = .ok (.bipush 60, 2) := by decide +kernel
theorem dX7_sheet_17 : decode cX7_sheet 17 = .ok (.if_icmp .le 6, 3) := by decide +kernel
theorem dX7_sheet_20 : decode cX7_sheet 20 = .ok (.bipush (-2), 2) := by decide +kernel
theorem dX7_sheet_22 : decode cX7_sheet 22 = .ok (.ireturn, 1) := by decide +kernel
theorem dX7_sheet_23 : decode cX7_sheet 23 = .ok (.iload_n 3, 1) := by decide +kernel
theorem dX7_sheet_24 : decode cX7_sheet 24 = .ok (.ifCond .ge 9, 3) := by decide +kernel
theorem dX7_sheet_27 : decode cX7_sheet 27 = .ok (.aload_n 0, 1) := by decide +kernel
theorem dX7_sheet_28 : decode cX7_sheet 28 = .ok (.iconst 5, 1) := by decide +kernel
theorem dX7_sheet_29 : decode cX7_sheet 29 = .ok (.invokevirtual 138, 3) := by decide +kernel
theorem dX7_sheet_32 : decode cX7_sheet 32 = .ok (.ireturn, 1) := by decide +kernel
theorem dX7_sheet_33 : decode cX7_sheet 33 = .ok (.aload_n 0, 1) := by decide +kernel
theorem dX7_sheet_34 : decode cX7_sheet 34 = .ok (.getfield 53, 3) := by decide +kernel
theorem dX7_sheet_37 : decode cX7_sheet 37 = .ok (.iload_n 1, 1) := by decide +kernel
theorem dX7_sheet_38 : decode cX7_sheet 38 = .ok (.iload_n 2, 1) := by decide +kernel
theorem dX7_sheet_39 : decode cX7_sheet 39 = .ok (.iload_n 3, 1) := by decide +kernel
theorem dX7_sheet_40 : decode cX7_sheet 40 = .ok (.invokevirtual 217, 3) := by decide +kernel
theorem dX7_sheet_43 : decode cX7_sheet 43 = .ok (.iload_n 3, 1) := by decide +kernel
theorem dX7_sheet_44 : decode cX7_sheet 44 = .ok (.ireturn, 1) := by decide +kernel
set_option maxRecDepth 20000 in
theorem ggX7_lose_X7_isSheet : GoodIn wsX7_lose wsX7_isSheet := goodIn_r _ [5, 6, 7, 4, 8] (by decide +kernel) (by decide +kernel)
set_option maxRecDepth 20000 in
theorem gX7_lose_X7_isSheet : GoodIn wsX7_lose (va_wsS RX7 132 yX7_isSheet wsX7_isSheet) := goodIn_app (goodIn_of _ (by decide +kernel)) ggX7_lose_X7_isSheet
set_option maxRecDepth 20000 in
theorem ggX7_lose_X5_isLost : GoodIn wsX7_lose wsX5_isLost := goodIn_r _ [13, 14, 15, 16, 17, 18, 19, 20, 44, 45, 46, 47] (by decide +kernel) (by decide +kernel)
set_option maxRecDepth 20000 in
theorem gX7_lose_X5_isLost : GoodIn wsX7_lose (wsV RX7 135 RX5 yX5_isLost wsX5_isLost) := goodIn_app (goodIn_of _ (by decide +kernel)) ggX7_lose_X5_isLost
set_option maxRecDepth 20000 in
theorem ggX7_lose_X7_find : GoodIn wsX7_lose wsX7_find := goodIn_r _ [24, 25, 37, 38, 39, 40, 41, 42, 43] (by decide +kernel) (by decide +kernel)
set_option maxRecDepth 20000 in
theorem gX7_lose_X7_find : GoodIn wsX7_lose (wsV RX7 138 RX7 yX7_find wsX7_find) := goodIn_app (goodIn_of _ (by decide +kernel)) ggX7_lose_X7_find
set_option maxRecDepth 20000 in
theorem ggX7_lose_X4_read : GoodIn wsX7_lose wsX4_read := goodIn_r _ [19, 20, 47] (by decide +kernel) (by decide +kernel)
set_option maxRecDepth 20000 in
theorem gX7_lose_X4_read : GoodIn wsX7_lose (wsV RX7 90 RX4 yX4_read wsX4_read) := goodIn_app (goodIn_of _ (by decide +kernel)) ggX7_lose_X4_read
set_option maxRecDepth 20000 in
theorem ggX7_lose_X5_renew : GoodIn wsX7_lose wsX5_renew := goodIn_r _ [30, 14, 31, 32, 33, 34, 35, 18, 36, 20, 44, 45, 46, 47] (by decide +kernel) (by decide +kernel)
set_option maxRecDepth 20000 in
theorem gX7_lose_X5_renew : GoodIn wsX7_lose (wsV RX7 217 RX5 yX5_renew wsX5_renew) := goodIn_app (goodIn_of _ (by decide +kernel)) ggX7_lose_X5_renew
theorem dX7_lose_0 : decode cX7_lose 0 = .ok (.iload_n 1, 1) := by decide +kernel
theorem dX7_lose_1 : decode cX7_lose 1 = .ok (.invokestatic 132, 3) := by decide +kernel
theorem dX7_lose_4 : decode cX7_lose 4 = .ok (.ifCond .ne 6, 3) := by decide +kernel
theorem dX7_lose_7 : decode cX7_lose 7 = .ok (.bipush (-2), 2) := by decide +kernel
theorem dX7_lose_9 : decode cX7_lose 9 = .ok (.ireturn, 1) := by decide +kernel
theorem dX7_lose_10 : decode cX7_lose 10 = .ok (.aload_n 0, 1) := by decide +kernel
theorem dX7_lose_11 : decode cX7_lose 11 = .ok (.getfield 53, 3) := by decide +kernel
theorem dX7_lose_14 : decode cX7_lose 14 = .ok (.iload_n 1, 1) := by decide +kernel
theorem dX7_lose_15 : decode cX7_lose 15 = .ok (.invokevirtual 135, 3) := by decide +kernel
theorem dX7_lose_18 : decode cX7_lose 18 = .ok (.ifCond .eq 9, 3) := by decide +kernel
theorem dX7_lose_21 : decode cX7_lose 21 = .ok (.aload_n 0, 1) := by decide +kernel
theorem dX7_lose_22 : decode cX7_lose 22 = .ok (.iconst 1, 1) := by decide +kernel
theorem dX7_lose_23 : decode cX7_lose 23 = .ok (.invokevirtual 138, 3) := by decide +kernel
theorem dX7_lose_26 : decode cX7_lose 26 = .ok (.ireturn, 1) := by decide +kernel
theorem dX7_lose_27 : decode cX7_lose 27 = .ok (.aload_n 0, 1) := by decide +kernel
theorem dX7_lose_28 : decode cX7_lose 28 = .ok (.getfield 53, 3) := by decide +kernel
theorem dX7_lose_31 : decode cX7_lose 31 = .ok (.getfield 221, 3) := by decide +kernel
theorem dX7_lose_34 : decode cX7_lose 34 = .ok (.iload_n 1, 1) := by decide +kernel
theorem dX7_lose_35 : decode cX7_lose 35 = .ok (.invokevirtual 90, 3) := by decide +kernel
theorem dX7_lose_38 : decode cX7_lose 38 = .ok (.istore_n 2, 1) := by decide +kernel
theorem dX7_lose_39 : decode cX7_lose 39 = .ok (.aload_n 0, 1) := by decide +kernel
theorem dX7_lose_40 : decode cX7_lose 40 = .ok (.getfield 53, 3) := by decide +kernel
theorem dX7_lose_43 : decode cX7_lose 43 = .ok (.iload_n 1, 1) := by decide +kernel
theorem dX7_lose_44 : decode cX7_lose 44 = .ok (.iconst (-1), 1) := by decide +kernel
theorem dX7_lose_45 : decode cX7_lose 45 = .ok (.iconst 0, 1) := by decide +kernel
theorem dX7_lose_46 : decode cX7_lose 46 = .ok (.invokevirtual 217, 3) := by decide +kernel
theorem dX7_lose_49 : decode cX7_lose 49 = .ok (.iload_n 2, 1) := by decide +kernel
theorem dX7_lose_50 : decode cX7_lose 50 = .ok (.ireturn, 1) := by decide +kernel
set_option maxRecDepth 20000 in
theorem ggX7_put_X7_isSheet : GoodIn wsX7_put wsX7_isSheet := goodIn_r _ [5, 6, 7, 4, 8] (by decide +kernel) (by decide +kernel)
set_option maxRecDepth 20000 in
theorem gX7_put_X7_isSheet : GoodIn wsX7_put (va_wsS RX7 132 yX7_isSheet wsX7_isSheet) := goodIn_app (goodIn_of _ (by decide +kernel)) ggX7_put_X7_isSheet
set_option maxRecDepth 20000 in
theorem ggX7_put_X7_isForm : GoodIn wsX7_put wsX7_isForm := goodIn_r _ [11, 6, 7, 4, 8] (by decide +kernel) (by decide +kernel)
set_option maxRecDepth 20000 in
theorem gX7_put_X7_isForm : GoodIn wsX7_put (va_wsS RX7 214 yX7_isForm wsX7_isForm) := goodIn_app (goodIn_of _ (by decide +kernel)) ggX7_put_X7_isForm
set_option maxRecDepth 20000 in
theorem ggX7_put_X5_findingAt : GoodIn wsX7_put wsX5_findingAt := goodIn_r _ [16, 17, 18, 19, 20, 21, 15, 22, 23, 24, 25, 26, 27, 28, 53, 54, 55, 56] (by decide +kernel) (by decide +kernel)
set_option maxRecDepth 20000 in
theorem gX7_put_X5_findingAt : GoodIn wsX7_put (wsV RX7 222 RX5 yX5_findingAt wsX5_findingAt) := goodIn_app (goodIn_of _ (by decide +kernel)) ggX7_put_X5_findingAt
set_option maxRecDepth 20000 in
theorem ggX7_put_X7_find : GoodIn wsX7_put wsX7_find := goodIn_r _ [32, 33, 46, 47, 48, 49, 50, 51, 52] (by decide +kernel) (by decide +kernel)
set_option maxRecDepth 20000 in
theorem gX7_put_X7_find : GoodIn wsX7_put (wsV RX7 138 RX7 yX7_find wsX7_find) := goodIn_app (goodIn_of _ (by decide +kernel)) ggX7_put_X7_find
set_option maxRecDepth 20000 in
theorem ggX7_put_X5_setItem : GoodIn wsX7_put wsX5_setItem := goodIn_r _ [37, 38, 17, 23, 24, 25, 26, 27, 28, 39, 40, 15, 41, 42, 43, 44, 45, 53, 54, 55, 56] (by decide +kernel) (by decide +kernel)
set_option maxRecDepth 20000 in
theorem gX7_put_X5_setItem : GoodIn wsX7_put (wsV RX7 225 RX5 yX5_setItem wsX5_setItem) := goodIn_app (goodIn_of _ (by decide +kernel)) ggX7_put_X5_setItem
theorem dX7_put_0 : decode cX7_put 0 = .ok (.iload_n 1, 1) := by decide +kernel
theorem dX7_put_1 : decode cX7_put 1 = .ok (.invokestatic 132, 3) := by decide +kernel
theorem dX7_put_4 : decode cX7_put 4 = .ok (.ifCond .eq 10, 3) := by decide +kernel
theorem dX7_put_7 : decode cX7_put 7 = .ok (.iload_n 2, 1) := by decide +kernel
theorem dX7_put_8 : decode cX7_put 8 = .ok (.invokestatic 214, 3) := by decide +kernel
theorem dX7_put_11 : decode cX7_put 11 = .ok (.ifCond .ne 6, 3) := by decide +kernel
theorem dX7_put_14 : decode cX7_put 14 = .ok (.bipush (-2), 2) := by decide +kernel
theorem dX7_put_16 : decode cX7_put 16 = .ok (.ireturn, 1) := by decide +kernel
theorem dX7_put_17 : decode cX7_put 17 = .ok (.aload_n 0, 1) := by decide +kernel
theorem dX7_put_18 : decode cX7_put 18 = .ok (.getfield 53, 3) := by decide +kernel
theorem dX7_put_21 : decode cX7_put 21 = .ok (.iload_n 1, 1) := by decide +kernel
theorem dX7_put_22 : decode cX7_put 22 = .ok (.iload_n 2, 1) := by decide +kernel
theorem dX7_put_23 : decode cX7_put 23 = .ok (.iload_n 3, 1) := by decide +kernel
theorem dX7_put_24 : decode cX7_put 24 = .ok (.invokevirtual 222, 3) := by decide +kernel
theorem dX7_put_27 : decode cX7_put 27 = .ok (.istore 5, 2) := by decide +kernel
theorem dX7_put_29 : decode cX7_put 29 = .ok (.iload 5, 2) := by decide +kernel
theorem dX7_put_31 : decode cX7_put 31 = .ok (.ifCond .eq 10, 3) := by decide +kernel
theorem dX7_put_34 : decode cX7_put 34 = .ok (.aload_n 0, 1) := by decide +kernel
theorem dX7_put_35 : decode cX7_put 35 = .ok (.iload 5, 2) := by decide +kernel
theorem dX7_put_37 : decode cX7_put 37 = .ok (.invokevirtual 138, 3) := by decide +kernel
theorem dX7_put_40 : decode cX7_put 40 = .ok (.ireturn, 1) := by decide +kernel
theorem dX7_put_41 : decode cX7_put 41 = .ok (.aload_n 0, 1) := by decide +kernel
theorem dX7_put_42 : decode cX7_put 42 = .ok (.getfield 53, 3) := by decide +kernel
theorem dX7_put_45 : decode cX7_put 45 = .ok (.iload_n 1, 1) := by decide +kernel
theorem dX7_put_46 : decode cX7_put 46 = .ok (.iload_n 3, 1) := by decide +kernel
theorem dX7_put_47 : decode cX7_put 47 = .ok (.iload 4, 2) := by decide +kernel
theorem dX7_put_49 : decode cX7_put 49 = .ok (.invokevirtual 225, 3) := by decide +kernel
theorem dX7_put_52 : decode cX7_put 52 = .ok (.iconst 1, 1) := by decide +kernel
theorem dX7_put_53 : decode cX7_put 53 = .ok (.ireturn, 1) := by decide +kernel
set_option maxRecDepth 20000 in
theorem ggX7_get_X7_isSheet : GoodIn wsX7_get wsX7_isSheet := goodIn_r _ [7, 8, 9, 6, 10] (by decide +kernel) (by decide +kernel)
set_option maxRecDepth 20000 in
theorem gX7_get_X7_isSheet : GoodIn wsX7_get (va_wsS RX7 132 yX7_isSheet wsX7_isSheet) := goodIn_app (goodIn_of _ (by decide +kernel)) ggX7_get_X7_isSheet
set_option maxRecDepth 20000 in
theorem ggX7_get_X7_isForm : GoodIn wsX7_get wsX7_isForm := goodIn_r _ [13, 8, 9, 6, 10] (by decide +kernel) (by decide +kernel)
set_option maxRecDepth 20000 in
theorem gX7_get_X7_isForm : GoodIn wsX7_get (va_wsS RX7 214 yX7_isForm wsX7_isForm) := goodIn_app (goodIn_of _ (by decide +kernel)) ggX7_get_X7_isForm
set_option maxRecDepth 20000 in
theorem ggX7_get_X5_findingAt : GoodIn wsX7_get wsX5_findingAt := goodIn_r _ [18, 19, 20, 21, 22, 23, 17, 24, 25, 26, 27, 28, 29, 30, 43, 44, 45, 46] (by decide +kernel) (by decide +kernel)
set_option maxRecDepth 20000 in
theorem gX7_get_X5_findingAt : GoodIn wsX7_get (wsV RX7 222 RX5 yX5_findingAt wsX5_findingAt) := goodIn_app (goodIn_of _ (by decide +kernel)) ggX7_get_X5_findingAt
set_option maxRecDepth 20000 in
theorem ggX7_get_X5_item : GoodIn wsX7_get wsX5_item := goodIn_r _ [34, 35, 25, 26, 27, 28, 29, 30, 43, 44, 45, 46] (by decide +kernel) (by decide +kernel)
set_option maxRecDepth 20000 in
theorem gX7_get_X5_item : GoodIn wsX7_get (wsV RX7 144 RX5 yX5_item wsX5_item) := goodIn_app (goodIn_of _ (by decide +kernel)) ggX7_get_X5_item
theorem dX7_get_0 : decode cX7_get 0 = .ok (.iload_n 1, 1) := by decide +kernel
theorem dX7_get_1 : decode cX7_get 1 = .ok (.invokestatic 132, 3) := by decide +kernel
theorem dX7_get_4 : decode cX7_get 4 = .ok (.ifCond .eq 10, 3) := by decide +kernel
theorem dX7_get_7 : decode cX7_get 7 = .ok (.iload_n 2, 1) := by decide +kernel
theorem dX7_get_8 : decode cX7_get 8 = .ok (.invokestatic 214, 3) := by decide +kernel
theorem dX7_get_11 : decode cX7_get 11 = .ok (.ifCond .ne 6, 3) := by decide +kernel
theorem dX7_get_14 : decode cX7_get 14 = .ok (.ldc 228, 2) := by decide +kernel
theorem dX7_get_16 : decode cX7_get 16 = .ok (.ireturn, 1) := by decide +kernel
theorem dX7_get_17 : decode cX7_get 17 = .ok (.aload_n 0, 1) := by decide +kernel
theorem dX7_get_18 : decode cX7_get 18 = .ok (.getfield 53, 3) := by decide +kernel
theorem dX7_get_21 : decode cX7_get 21 = .ok (.iload_n 1, 1) := by decide +kernel
theorem dX7_get_22 : decode cX7_get 22 = .ok (.iload_n 2, 1) := by decide +kernel
theorem dX7_get_23 : decode cX7_get 23 = .ok (.iload_n 3, 1) := by decide +kernel
theorem dX7_get_24 : decode cX7_get 24 = .ok (.invokevirtual 222, 3) := by decide +kernel
theorem dX7_get_27 : decode cX7_get 27 = .ok (.istore 4, 2) := by decide +kernel
theorem dX7_get_29 : decode cX7_get 29 = .ok (.iload 4, 2) := by decide +kernel
theorem dX7_get_31 : decode cX7_get 31 = .ok (.ifCond .eq 12, 3) := by decide +kernel
theorem dX7_get_34 : decode cX7_get 34 = .ok (.aload_n 0, 1) := by decide +kernel
theorem dX7_get_35 : decode cX7_get 35 = .ok (.iload 4, 2) := by decide +kernel
theorem dX7_get_37 : decode cX7_get 37 = .ok (.putfield 57, 3) := by decide +kernel
theorem dX7_get_40 : decode cX7_get 40 = .ok (.ldc 228, 2) := by decide +kernel
theorem dX7_get_42 : decode cX7_get 42 = .ok (.ireturn, 1) := by decide +kernel
theorem dX7_get_43 : decode cX7_get 43 = .ok (.aload_n 0, 1) := by decide +kernel
theorem dX7_get_44 : decode cX7_get 44 = .ok (.getfield 53, 3) := by decide +kernel
theorem dX7_get_47 : decode cX7_get 47 = .ok (.iload_n 1, 1) := by decide +kernel
theorem dX7_get_48 : decode cX7_get 48 = .ok (.iload_n 3, 1) := by decide +kernel
theorem dX7_get_49 : decode cX7_get 49 = .ok (.invokevirtual 144, 3) := by decide +kernel
theorem dX7_get_52 : decode cX7_get 52 = .ok (.ireturn, 1) := by decide +kernel
set_option maxRecDepth 20000 in
theorem ggX7_copy_X7_isSheet : GoodIn wsX7_copy wsX7_isSheet := goodIn_r _ [5, 6, 7, 4, 8] (by decide +kernel) (by decide +kernel)
set_option maxRecDepth 20000 in
theorem gX7_copy_X7_isSheet : GoodIn wsX7_copy (va_wsS RX7 132 yX7_isSheet wsX7_isSheet) := goodIn_app (goodIn_of _ (by decide +kernel)) ggX7_copy_X7_isSheet
set_option maxRecDepth 20000 in
theorem ggX7_copy_X5_isLost : GoodIn wsX7_copy wsX5_isLost := goodIn_r _ [13, 14, 15, 16, 17, 18, 19, 20, 59, 60, 61, 62] (by decide +kernel) (by decide +kernel)
set_option maxRecDepth 20000 in
theorem gX7_copy_X5_isLost : GoodIn wsX7_copy (wsV RX7 135 RX5 yX5_isLost wsX5_isLost) := goodIn_app (goodIn_of _ (by decide +kernel)) ggX7_copy_X5_isLost
set_option maxRecDepth 20000 in
theorem ggX7_copy_X7_find : GoodIn wsX7_copy wsX7_find := goodIn_r _ [24, 25, 52, 53, 54, 55, 56, 57, 58] (by decide +kernel) (by decide +kernel)
set_option maxRecDepth 20000 in
theorem gX7_copy_X7_find : GoodIn wsX7_copy (wsV RX7 138 RX7 yX7_find wsX7_find) := goodIn_app (goodIn_of _ (by decide +kernel)) ggX7_copy_X7_find
set_option maxRecDepth 20000 in
theorem ggX7_copy_X4_read : GoodIn wsX7_copy wsX4_read := goodIn_r _ [19, 20, 62] (by decide +kernel) (by decide +kernel)
set_option maxRecDepth 20000 in
theorem gX7_copy_X4_read : GoodIn wsX7_copy (wsV RX7 90 RX4 yX4_read wsX4_read) := goodIn_app (goodIn_of _ (by decide +kernel)) ggX7_copy_X4_read
set_option maxRecDepth 20000 in
theorem ggX7_copy_X5_holds : GoodIn wsX7_copy wsX5_holds := goodIn_r _ [30, 31, 15, 16, 17, 18, 19, 20, 59, 60, 61, 62] (by decide +kernel) (by decide +kernel)
set_option maxRecDepth 20000 in
theorem gX7_copy_X5_holds : GoodIn wsX7_copy (wsV RX7 141 RX5 yX5_holds wsX5_holds) := goodIn_app (goodIn_of _ (by decide +kernel)) ggX7_copy_X5_holds
set_option maxRecDepth 20000 in
theorem ggX7_copy_X5_moveItems : GoodIn wsX7_copy wsX5_moveItems := goodIn_r _ [35, 36, 37, 38, 12, 39, 40, 15, 16, 17, 18, 19, 20, 41, 42, 43, 44, 14, 45, 46, 47, 48, 49, 50, 51, 59, 60, 61, 62] (by decide +kernel) (by decide +kernel)
set_option maxRecDepth 20000 in
theorem gX7_copy_X5_moveItems : GoodIn wsX7_copy (wsV RX7 232 RX5 yX5_moveItems wsX5_moveItems) := goodIn_app (goodIn_of _ (by decide +kernel)) ggX7_copy_X5_moveItems
theorem dX7_copy_0 : decode cX7_copy 0 = .ok (.iload_n 1, 1) := by decide +kernel
theorem dX7_copy_1 : decode cX7_copy 1 = .ok (.invokestatic 132, 3) := by decide +kernel
theorem dX7_copy_4 : decode cX7_copy 4 = .ok (.ifCond .eq 10, 3) := by decide +kernel
theorem dX7_copy_7 : decode cX7_copy 7 = .ok (.iload_n 3, 1) := by decide +kernel
theorem dX7_copy_8 : decode cX7_copy 8 = .ok (.invokestatic 132, 3) := by decide +kernel
theorem dX7_copy_11 : decode cX7_copy 11 = .ok (.ifCond .ne 6, 3) := by decide +kernel
theorem dX7_copy_14 : decode cX7_copy 14 = .ok (.bipush (-2), 2) := by decide +kernel
theorem dX7_copy_16 : decode cX7_copy 16 = .ok (.ireturn, 1) := by decide +kernel
theorem dX7_copy_17 : decode cX7_copy 17 = .ok (.aload_n 0, 1) := by decide +kernel
theorem dX7_copy_18 : decode cX7_copy 18 = .ok (.getfield 53, 3) := by decide +kernel
theorem dX7_copy_21 : decode cX7_copy 21 = .ok (.iload_n 1, 1) := by decide +kernel
theorem dX7_copy_22 : decode cX7_copy 22 = .ok (.invokevirtual 135, 3) := by decide +kernel
theorem dX7_copy_25 : decode cX7_copy 25 = .ok (.ifCond .ne 14, 3) := by decide +kernel
theorem dX7_copy_28 : decode cX7_copy 28 = .ok (.aload_n 0, 1) := by decide +kernel
theorem dX7_copy_29 : decode cX7_copy 29 = .ok (.getfield 53, 3) := by decide +kernel
theorem dX7_copy_32 : decode cX7_copy 32 = .ok (.iload_n 3, 1) := by decide +kernel
theorem dX7_copy_33 : decode cX7_copy 33 = .ok (.invokevirtual 135, 3) := by decide +kernel
theorem dX7_copy_36 : decode cX7_copy 36 = .ok (.ifCond .eq 9, 3) := by decide +kernel
theorem dX7_copy_39 : decode cX7_copy 39 = .ok (.aload_n 0, 1) := by decide +kernel
theorem dX7_copy_40 : decode cX7_copy 40 = .ok (.iconst 1, 1) := by decide +kernel
theorem dX7_copy_41 : decode cX7_copy 41 = .ok (.invokevirtual 138, 3) := by decide +kernel
theorem dX7_copy_44 : decode cX7_copy 44 = .ok (.ireturn, 1) := by decide +kernel
theorem dX7_copy_45 : decode cX7_copy 45 = .ok (.aload_n 0, 1) := by decide +kernel
theorem dX7_copy_46 : decode cX7_copy 46 = .ok (.getfield 53, 3) := by decide +kernel
theorem dX7_copy_49 : decode cX7_copy 49 = .ok (.getfield 229, 3) := by decide +kernel
theorem dX7_copy_52 : decode cX7_copy 52 = .ok (.iload_n 1, 1) := by decide +kernel
theorem dX7_copy_53 : decode cX7_copy 53 = .ok (.invokevirtual 90, 3) := by decide +kernel
theorem dX7_copy_56 : decode cX7_copy 56 = .ok (.aload_n 0, 1) := by decide +kernel
theorem dX7_copy_57 : decode cX7_copy 57 = .ok (.getfield 53, 3) := by decide +kernel
theorem dX7_copy_60 : decode cX7_copy 60 = .ok (.getfield 229, 3) := by decide +kernel
theorem dX7_copy_63 : decode cX7_copy 63 = .ok (.iload_n 3, 1) := by decide +kernel
theorem dX7_copy_64 : decode cX7_copy 64 = .ok (.invokevirtual 90, 3) := by decide +kernel
theorem dX7_copy_67 : decode cX7_copy 67 = .ok (.if_icmp .eq 9, 3) := by decide +kernel
theorem dX7_copy_70 : decode cX7_copy 70 = .ok (.aload_n 0, 1) := by decide +kernel
theorem dX7_copy_71 : decode cX7_copy 71 = .ok (.iconst 4, 1) := by decide +kernel
theorem dX7_copy_72 : decode cX7_copy 72 = .ok (.invokevirtual 138, 3) := by decide +kernel
theorem dX7_copy_75 : decode cX7_copy 75 = .ok (.ireturn, 1) := by decide +kernel
theorem dX7_copy_76 : decode cX7_copy 76 = .ok (.aload_n 0, 1) := by decide +kernel
theorem dX7_copy_77 : decode cX7_copy 77 = .ok (.getfield 53, 3) := by decide +kernel
theorem dX7_copy_80 : decode cX7_copy 80 = .ok (.iload_n 1, 1) := by decide +kernel
theorem dX7_copy_81 : decode cX7_copy 81 = .ok (.iload_n 2, 1) := by decide +kernel
theorem dX7_copy_82 : decode cX7_copy 82 = .ok (.iload 5, 2) := by decide +kernel
theorem dX7_copy_84 : decode cX7_copy 84 = .ok (.invokevirtual 141, 3) := by decide +kernel
theorem dX7_copy_87 : decode cX7_copy 87 = .ok (.ifCond .eq 18, 3) := by decide +kernel
theorem dX7_copy_90 : decode cX7_copy 90 = .ok (.aload_n 0, 1) := by decide +kernel
theorem dX7_copy_91 : decode cX7_copy 91 = .ok (.getfield 53, 3) := by decide +kernel
theorem dX7_copy_94 : decode cX7_copy 94 = .ok (.iload_n 3, 1) := by decide +kernel
theorem dX7_copy_95 : decode cX7_copy 95 = .ok (.iload 4, 2) := by decide +kernel
theorem dX7_copy_97 : decode cX7_copy 97 = .ok (.iload 5, 2) := by decide +kernel
theorem dX7_copy_99 : decode cX7_copy 99 = .ok (.invokevirtual 141, 3) := by decide +kernel
theorem dX7_copy_102 : decode cX7_copy 102 = .ok (.ifCond .ne 9, 3) := by decide +kernel
theorem dX7_copy_105 : decode cX7_copy 105 = .ok (.aload_n 0, 1) := by decide +kernel
theorem dX7_copy_106 : decode cX7_copy 106 = .ok (.iconst 2, 1) := by decide +kernel
theorem dX7_copy_107 : decode cX7_copy 107 = .ok (.invokevirtual 138, 3) := by decide +kernel
theorem dX7_copy_110 : decode cX7_copy 110 = .ok (.ireturn, 1) := by decide +kernel
theorem dX7_copy_111 : decode cX7_copy 111 = .ok (.aload_n 0, 1) := by decide +kernel
theorem dX7_copy_112 : decode cX7_copy 112 = .ok (.getfield 53, 3) := by decide +kernel
theorem dX7_copy_115 : decode cX7_copy 115 = .ok (.iload_n 1, 1) := by decide +kernel
theorem dX7_copy_116 : decode cX7_copy 116 = .ok (.iload_n 2, 1) := by decide +kernel
theorem dX7_copy_117 : decode cX7_copy 117 = .ok (.iload_n 3, 1) := by decide +kernel
theorem dX7_copy_118 : decode cX7_copy 118 = .ok (.iload 4, 2) := by decide +kernel
theorem dX7_copy_120 : decode cX7_copy 120 = .ok (.iload 5, 2) := by decide +kernel
theorem dX7_copy_122 : decode cX7_copy 122 = .ok (.invokevirtual 232, 3) := by decide +kernel
theorem dX7_copy_125 : decode cX7_copy 125 = .ok (.iconst 1, 1) := by decide +kernel
theorem dX7_copy_126 : decode cX7_copy 126 = .ok (.ireturn, 1) := by decide +kernel
set_option maxRecDepth 20000 in
theorem ggX7_list_X7_isSheet : GoodIn wsX7_list wsX7_isSheet := goodIn_r _ [6, 7, 8, 5, 9] (by decide +kernel) (by decide +kernel)
set_option maxRecDepth 20000 in
theorem gX7_list_X7_isSheet : GoodIn wsX7_list (va_wsS RX7 132 yX7_isSheet wsX7_isSheet) := goodIn_app (goodIn_of _ (by decide +kernel)) ggX7_list_X7_isSheet
set_option maxRecDepth 20000 in
theorem ggX7_list_X7_isOwnerOrAny : GoodIn wsX7_list wsX7_isOwnerOrAny := goodIn_r _ [12, 13, 14, 5, 15, 7, 8, 9] (by decide +kernel) (by decide +kernel)
set_option maxRecDepth 20000 in
theorem gX7_list_X7_isOwnerOrAny : GoodIn wsX7_list (va_wsS RX7 119 yX7_isOwnerOrAny wsX7_isOwnerOrAny) := goodIn_app (goodIn_of _ (by decide +kernel)) ggX7_list_X7_isOwnerOrAny
set_option maxRecDepth 20000 in
theorem ggX7_list_X7_isPlace : GoodIn wsX7_list wsX7_isPlace := goodIn_r _ [18, 7, 8, 5, 9] (by decide +kernel) (by decide +kernel)
set_option maxRecDepth 20000 in
theorem gX7_list_X7_isPlace : GoodIn wsX7_list (va_wsS RX7 125 yX7_isPlace wsX7_isPlace) := goodIn_app (goodIn_of _ (by decide +kernel)) ggX7_list_X7_isPlace
set_option maxRecDepth 20000 in
theorem ggX7_list_X5_isLost : GoodIn wsX7_list wsX5_isLost := goodIn_r _ [23, 24, 25, 26, 27, 28, 29, 30, 65, 66, 67, 75] (by decide +kernel) (by decide +kernel)
set_option maxRecDepth 20000 in
theorem gX7_list_X5_isLost : GoodIn wsX7_list (wsV RX7 135 RX5 yX5_isLost wsX5_isLost) := goodIn_app (goodIn_of _ (by decide +kernel)) ggX7_list_X5_isLost
set_option maxRecDepth 20000 in
theorem ggX7_list_X7_find : GoodIn wsX7_list wsX7_find := goodIn_r _ [34, 35, 58, 59, 60, 61, 62, 63, 64] (by decide +kernel) (by decide +kernel)
set_option maxRecDepth 20000 in
theorem gX7_list_X7_find : GoodIn wsX7_list (wsV RX7 138 RX7 yX7_find wsX7_find) := goodIn_app (goodIn_of _ (by decide +kernel)) ggX7_list_X7_find
set_option maxRecDepth 20000 in
theorem ggX7_list_X4_read : GoodIn wsX7_list wsX4_read := goodIn_r _ [29, 30, 75] (by decide +kernel) (by decide +kernel)
set_option maxRecDepth 20000 in
theorem gX7_list_X4_read : GoodIn wsX7_list (wsV RX7 90 RX4 yX4_read wsX4_read) := goodIn_app (goodIn_of _ (by decide +kernel)) ggX7_list_X4_read
set_option maxRecDepth 20000 in
theorem ggX7_list_X2_fits : GoodIn wsX7_list wsX2_fits := goodIn_r _ [41, 42, 43, 44, 45, 26, 27, 28, 29, 30, 68, 69, 70, 71, 72, 73, 74, 75] (by decide +kernel) (by decide +kernel)
set_option maxRecDepth 20000 in
theorem gX7_list_X2_fits : GoodIn wsX7_list (wsV RX7 236 RX2 yX2_fits wsX2_fits) := goodIn_app (goodIn_of _ (by decide +kernel)) ggX7_list_X2_fits
set_option maxRecDepth 20000 in
theorem ggX7_list_X5_setItem : GoodIn wsX7_list wsX5_setItem := goodIn_r _ [49, 50, 24, 25, 26, 27, 28, 29, 30, 51, 52, 22, 53, 54, 55, 56, 57, 65, 66, 67, 75] (by decide +kernel) (by decide +kernel)
set_option maxRecDepth 20000 in
theorem gX7_list_X5_setItem : GoodIn wsX7_list (wsV RX7 225 RX5 yX5_setItem wsX5_setItem) := goodIn_app (goodIn_of _ (by decide +kernel)) ggX7_list_X5_setItem
theorem dX7_list_0 : decode cX7_list 0 = .ok (.iload_n 1, 1) := by decide +kernel
theorem dX7_list_1 : decode cX7_list 1 = .ok (.invokestatic 132, 3) := by decide +kernel
theorem dX7_list_4 : decode cX7_list 4 = .ok (.ifCond .eq 17, 3) := by decide +kernel
theorem dX7_list_7 : decode cX7_list 7 = .ok (.iload_n 2, 1) := by decide +kernel
theorem dX7_list_8 : decode cX7_list 8 = .ok (.invokestatic 119, 3) := by decide +kernel
theorem dX7_list_11 : decode cX7_list 11 = .ok (.ifCond .eq 10, 3) := by decide +kernel
theorem dX7_list_14 : decode cX7_list 14 = .ok (.iload_n 3, 1) := by decide +kernel
theorem dX7_list_15 : decode cX7_list 15 = .ok (.invokestatic 125, 3) := by decide +kernel
theorem dX7_list_18 : decode cX7_list 18 = .ok (.ifCond .ne 6, 3) := by decide +kernel
theorem dX7_list_21 : decode cX7_list 21 = .ok (.bipush (-2), 2) := by decide +kernel
theorem dX7_list_23 : decode cX7_list 23 = .ok (.ireturn, 1) := by decide +kernel
theorem dX7_list_24 : decode cX7_list 24 = .ok (.aload_n 0, 1) := by decide +kernel
theorem dX7_list_25 : decode cX7_list 25 = .ok (.getfield 53, 3) := by decide +kernel
theorem dX7_list_28 : decode cX7_list 28 = .ok (.iload_n 1, 1) := by decide +kernel
theorem dX7_list_29 : decode cX7_list 29 = .ok (.invokevirtual 135, 3) := by decide +kernel
theorem dX7_list_32 : decode cX7_list 32 = .ok (.ifCond .eq 9, 3) := by decide +kernel
theorem dX7_list_35 : decode cX7_list 35 = .ok (.aload_n 0, 1) := by decide +kernel
theorem dX7_list_36 : decode cX7_list 36 = .ok (.iconst 1, 1) := by decide +kernel
theorem dX7_list_37 : decode cX7_list 37 = .ok (.invokevirtual 138, 3) := by decide +kernel
theorem dX7_list_40 : decode cX7_list 40 = .ok (.ireturn, 1) := by decide +kernel
theorem dX7_list_41 : decode cX7_list 41 = .ok (.aload_n 0, 1) := by decide +kernel
theorem dX7_list_42 : decode cX7_list 42 = .ok (.getfield 53, 3) := by decide +kernel
theorem dX7_list_45 : decode cX7_list 45 = .ok (.getfield 221, 3) := by decide +kernel
theorem dX7_list_48 : decode cX7_list 48 = .ok (.iload_n 1, 1) := by decide +kernel
theorem dX7_list_49 : decode cX7_list 49 = .ok (.invokevirtual 90, 3) := by decide +kernel
theorem dX7_list_52 : decode cX7_list 52 = .ok (.istore 4, 2) := by decide +kernel
theorem dX7_list_54 : decode cX7_list 54 = .ok (.iconst 0, 1) := by decide +kernel
theorem dX7_list_55 : decode cX7_list 55 = .ok (.istore 5, 2) := by decide +kernel
theorem dX7_list_57 : decode cX7_list 57 = .ok (.iconst 0, 1) := by decide +kernel
theorem dX7_list_58 : decode cX7_list 58 = .ok (.istore 6, 2) := by decide +kernel
theorem dX7_list_60 : decode cX7_list 60 = .ok (.iload 6, 2) := by decide +kernel
theorem dX7_list_62 : decode cX7_list 62 = .ok (.aload_n 0, 1) := by decide +kernel
theorem dX7_list_63 : decode cX7_list 63 = .ok (.getfield 19, 3) := by decide +kernel
theorem dX7_list_66 : decode cX7_list 66 = .ok (.getfield 79, 3) := by decide +kernel
theorem dX7_list_69 : decode cX7_list 69 = .ok (.if_icmp .ge 46, 3) := by decide +kernel
theorem dX7_list_72 : decode cX7_list 72 = .ok (.iload 5, 2) := by decide +kernel
theorem dX7_list_74 : decode cX7_list 74 = .ok (.iload 4, 2) := by decide +kernel
theorem dX7_list_76 : decode cX7_list 76 = .ok (.if_icmp .ge 39, 3) := by decide +kernel
theorem dX7_list_79 : decode cX7_list 79 = .ok (.aload_n 0, 1) := by decide +kernel
theorem dX7_list_80 : decode cX7_list 80 = .ok (.getfield 19, 3) := by decide +kernel
theorem dX7_list_83 : decode cX7_list 83 = .ok (.iload 6, 2) := by decide +kernel
theorem dX7_list_85 : decode cX7_list 85 = .ok (.iload_n 2, 1) := by decide +kernel
theorem dX7_list_86 : decode cX7_list 86 = .ok (.iconst (-1), 1) := by decide +kernel
theorem dX7_list_87 : decode cX7_list 87 = .ok (.iload_n 3, 1) := by decide +kernel
theorem dX7_list_88 : decode cX7_list 88 = .ok (.invokevirtual 236, 3) := by decide +kernel
theorem dX7_list_91 : decode cX7_list 91 = .ok (.ifCond .eq 18, 3) := by decide +kernel
theorem dX7_list_94 : decode cX7_list 94 = .ok (.aload_n 0, 1) := by decide +kernel
theorem dX7_list_95 : decode cX7_list 95 = .ok (.getfield 53, 3) := by decide +kernel
theorem dX7_list_98 : decode cX7_list 98 = .ok (.iload_n 1, 1) := by decide +kernel
theorem dX7_list_99 : decode cX7_list 99 = .ok (.iload 5, 2) := by decide +kernel
theorem dX7_list_101 : decode cX7_list 101 = .ok (.iload 6, 2) := by decide +kernel
theorem dX7_list_103 : decode cX7_list 103 = .ok (.invokevirtual 225, 3) := by decide +kernel
theorem dX7_list_106 : decode cX7_list 106 = .ok (.iinc 5 1, 3) := by decide +kernel
theorem dX7_list_109 : decode cX7_list 109 = .ok (.iinc 6 1, 3) := by decide +kernel
theorem dX7_list_112 : decode cX7_list 112 = .ok (.goto (-52), 3) := by decide +kernel
theorem dX7_list_115 : decode cX7_list 115 = .ok (.iload 5, 2) := by decide +kernel
theorem dX7_list_117 : decode cX7_list 117 = .ok (.ireturn, 1) := by decide +kernel
theorem dX7_count_0 : decode cX7_count 0 = .ok (.iload_n 1, 1) := by decide +kernel
theorem dX7_count_1 : decode cX7_count 1 = .ok (.tableswitch 108 0 7 #[47, 55, 63, 71, 79, 87, 95, 100], 47) := by decide +kernel
theorem dX7_count_48 : decode cX7_count 48 = .ok (.aload_n 0, 1) := by decide +kernel
theorem dX7_count_49 : decode cX7_count 49 = .ok (.getfield 12, 3) := by decide +kernel
theorem dX7_count_52 : decode cX7_count 52 = .ok (.getfield 65, 3) := by decide +kernel
theorem dX7_count_55 : decode cX7_count 55 = .ok (.ireturn, 1) := by decide +kernel
theorem dX7_count_56 : decode cX7_count 56 = .ok (.aload_n 0, 1) := by decide +kernel
theorem dX7_count_57 : decode cX7_count 57 = .ok (.getfield 19, 3) := by decide +kernel
theorem dX7_count_60 : decode cX7_count 60 = .ok (.getfield 79, 3) := by decide +kernel
theorem dX7_count_63 : decode cX7_count 63 = .ok (.ireturn, 1) := by decide +kernel
theorem dX7_count_64 : decode cX7_count 64 = .ok (.aload_n 0, 1) := by decide +kernel
theorem dX7_count_65 : decode cX7_count 65 = .ok (.getfield 28, 3) := by decide +kernel
theorem dX7_count_68 : decode cX7_count 68 = .ok (.getfield 147, 3) := by decide +kernel
theorem dX7_count_71 : decode cX7_count 71 = .ok (.ireturn, 1) := by decide +kernel
theorem dX7_count_72 : decode cX7_count 72 = .ok (.aload_n 0, 1) := by decide +kernel
theorem dX7_count_73 : decode cX7_count 73 = .ok (.getfield 46, 3) := by decide +kernel
theorem dX7_count_76 : decode cX7_count 76 = .ok (.getfield 190, 3) := by decide +kernel
theorem dX7_count_79 : decode cX7_count 79 = .ok (.ireturn, 1) := by decide +kernel
theorem dX7_count_80 : decode cX7_count 80 = .ok (.aload_n 0, 1) := by decide +kernel
theorem dX7_count_81 : decode cX7_count 81 = .ok (.getfield 46, 3) := by decide +kernel
theorem dX7_count_84 : decode cX7_count 84 = .ok (.getfield 193, 3) := by decide +kernel
theorem dX7_count_87 : decode cX7_count 87 = .ok (.ireturn, 1) := by decide +kernel
theorem dX7_count_88 : decode cX7_count 88 = .ok (.aload_n 0, 1) := by decide +kernel
theorem dX7_count_89 : decode cX7_count 89 = .ok (.getfield 46, 3) := by decide +kernel
theorem dX7_count_92 : decode cX7_count 92 = .ok (.getfield 196, 3) := by decide +kernel
theorem dX7_count_95 : decode cX7_count 95 = .ok (.ireturn, 1) := by decide +kernel
theorem dX7_count_96 : decode cX7_count 96 = .ok (.aload_n 0, 1) := by decide +kernel
theorem dX7_count_97 : decode cX7_count 97 = .ok (.getfield 57, 3) := by decide +kernel
theorem dX7_count_100 : decode cX7_count 100 = .ok (.ireturn, 1) := by decide +kernel
theorem dX7_count_101 : decode cX7_count 101 = .ok (.aload_n 0, 1) := by decide +kernel
theorem dX7_count_102 : decode cX7_count 102 = .ok (.getfield 46, 3) := by decide +kernel
theorem dX7_count_105 : decode cX7_count 105 = .ok (.getfield 240, 3) := by decide +kernel
theorem dX7_count_108 : decode cX7_count 108 = .ok (.ireturn, 1) := by decide +kernel
theorem dX7_count_109 : decode cX7_count 109 = .ok (.bipush (-2), 2) := by decide +kernel
theorem dX7_count_111 : decode cX7_count 111 = .ok (.ireturn, 1) := by decide +kernel
set_option maxRecDepth 20000 in
theorem ggX7_digest_X7_count : GoodIn wsX7_digest wsX7_count := goodIn_r _ [9, 10, 3, 4, 11, 12, 42, 43, 44, 45, 46, 47, 48, 61, 62, 63, 64, 65, 66, 49, 50, 51, 52, 53, 54, 55, 56, 57, 58, 59, 60, 67, 68, 69, 70, 71, 72, 73, 74, 75, 76, 77, 78, 79, 80, 81, 82] (by decide +kernel) (by decide +kernel)
set_option maxRecDepth 20000 in
theorem gX7_digest_X7_count : GoodIn wsX7_digest (wsV RX7 246 RX7 yX7_count wsX7_count) := goodIn_app (goodIn_of _ (by decide +kernel)) ggX7_digest_X7_count
set_option maxRecDepth 20000 in
theorem ggX7_digest_X7_about : GoodIn wsX7_digest wsX7_about := goodIn_r _ [16, 3, 17, 18, 19, 8, 20, 21, 22, 23, 24, 25, 26, 27, 28, 29, 42, 43, 44, 45, 46, 47, 48, 49, 50, 51, 52, 53, 54, 55, 83] (by decide +kernel) (by decide +kernel)
set_option maxRecDepth 20000 in
theorem gX7_digest_X7_about : GoodIn wsX7_digest (wsV RX7 249 RX7 yX7_about wsX7_about) := goodIn_app (goodIn_of _ (by decide +kernel)) ggX7_digest_X7_about
set_option maxRecDepth 20000 in
theorem ggX7_digest_X7_at : GoodIn wsX7_digest wsX7_at := goodIn_r _ [33, 4, 34, 35, 36, 8, 37, 21, 22, 23, 24, 25, 26, 27, 28, 29, 42, 43, 44, 45, 46, 47, 48, 56, 57, 58, 59, 60, 83] (by decide +kernel) (by decide +kernel)
set_option maxRecDepth 20000 in
theorem gX7_digest_X7_at : GoodIn wsX7_digest (wsV RX7 252 RX7 yX7_at wsX7_at) := goodIn_app (goodIn_of _ (by decide +kernel)) ggX7_digest_X7_at
set_option maxRecDepth 20000 in
theorem ggX7_digest_X7_washed : GoodIn wsX7_digest wsX7_washed := goodIn_r _ [41, 11, 21, 22, 8, 23, 24, 25, 26, 27, 28, 29, 42, 43, 44, 45, 46, 47, 48, 67, 68, 69, 70, 71, 72, 73, 74, 75, 76, 77, 78, 79, 80, 81, 82, 83] (by decide +kernel) (by decide +kernel)
set_option maxRecDepth 20000 in
theorem gX7_digest_X7_washed : GoodIn wsX7_digest (wsV RX7 255 RX7 yX7_washed wsX7_washed) := goodIn_app (goodIn_of _ (by decide +kernel)) ggX7_digest_X7_washed
theorem dX7_digest_0 : decode cX7_digest 0 = .ok (.ldc2_w 242, 3) := by decide +kernel
theorem dX7_digest_3 : decode cX7_digest 3 = .ok (.lstore_n 1, 1) := by decide +kernel
theorem dX7_digest_4 : decode cX7_digest 4 = .ok (.iconst 0, 1) := by decide +kernel
theorem dX7_digest_5 : decode cX7_digest 5 = .ok (.istore_n 3, 1) := by decide +kernel
theorem dX7_digest_6 : decode cX7_digest 6 = .ok (.iload_n 3, 1) := by decide +kernel
theorem dX7_digest_7 : decode cX7_digest 7 = .ok (.iconst 5, 1) := by decide +kernel
theorem dX7_digest_8 : decode cX7_digest 8 = .ok (.if_icmp .gt 22, 3) := by decide +kernel
theorem dX7_digest_11 : decode cX7_digest 11 = .ok (.ldc2_w 244, 3) := by decide +kernel
theorem dX7_digest_14 : decode cX7_digest 14 = .ok (.lload_n 1, 1) := by decide +kernel
theorem dX7_digest_15 : decode cX7_digest 15 = .ok (.lmul, 1) := by decide +kernel
theorem dX7_digest_16 : decode cX7_digest 16 = .ok (.aload_n 0, 1) := by decide +kernel
theorem dX7_digest_17 : decode cX7_digest 17 = .ok (.iload_n 3, 1) := by decide +kernel
theorem dX7_digest_18 : decode cX7_digest 18 = .ok (.invokevirtual 246, 3) := by decide +kernel
theorem dX7_digest_21 : decode cX7_digest 21 = .ok (.i2l, 1) := by decide +kernel
theorem dX7_digest_22 : decode cX7_digest 22 = .ok (.ladd, 1) := by decide +kernel
theorem dX7_digest_23 : decode cX7_digest 23 = .ok (.lstore_n 1, 1) := by decide +kernel
theorem dX7_digest_24 : decode cX7_digest 24 = .ok (.iinc 3 1, 3) := by decide +kernel
theorem dX7_digest_27 : decode cX7_digest 27 = .ok (.goto (-21), 3) := by decide +kernel
theorem dX7_digest_30 : decode cX7_digest 30 = .ok (.ldc2_w 244, 3) := by decide +kernel
theorem dX7_digest_33 : decode cX7_digest 33 = .ok (.lload_n 1, 1) := by decide +kernel
theorem dX7_digest_34 : decode cX7_digest 34 = .ok (.lmul, 1) := by decide +kernel
theorem dX7_digest_35 : decode cX7_digest 35 = .ok (.aload_n 0, 1) := by decide +kernel
theorem dX7_digest_36 : decode cX7_digest 36 = .ok (.bipush 7, 2) := by decide +kernel
theorem dX7_digest_38 : decode cX7_digest 38 = .ok (.invokevirtual 246, 3) := by decide +kernel
theorem dX7_digest_41 : decode cX7_digest 41 = .ok (.i2l, 1) := by decide +kernel
theorem dX7_digest_42 : decode cX7_digest 42 = .ok (.ladd, 1) := by decide +kernel
theorem dX7_digest_43 : decode cX7_digest 43 = .ok (.lstore_n 1, 1) := by decide +kernel
theorem dX7_digest_44 : decode cX7_digest 44 = .ok (.iconst 0, 1) := by decide +kernel
theorem dX7_digest_45 : decode cX7_digest 45 = .ok (.istore_n 3, 1) := by decide +kernel
theorem dX7_digest_46 : decode cX7_digest 46 = .ok (.iload_n 3, 1) := by decide +kernel
theorem dX7_digest_47 : decode cX7_digest 47 = .ok (.aload_n 0, 1) := by decide +kernel
theorem dX7_digest_48 : decode cX7_digest 48 = .ok (.getfield 19, 3) := by decide +kernel
theorem dX7_digest_51 : decode cX7_digest 51 = .ok (.getfield 79, 3) := by decide +kernel
theorem dX7_digest_54 : decode cX7_digest 54 = .ok (.if_icmp .ge 39, 3) := by decide +kernel
theorem dX7_digest_57 : decode cX7_digest 57 = .ok (.iconst 2, 1) := by decide +kernel
theorem dX7_digest_58 : decode cX7_digest 58 = .ok (.istore 4, 2) := by decide +kernel
theorem dX7_digest_60 : decode cX7_digest 60 = .ok (.iload 4, 2) := by decide +kernel
theorem dX7_digest_62 : decode cX7_digest 62 = .ok (.iconst 5, 1) := by decide +kernel
theorem dX7_digest_63 : decode cX7_digest 63 = .ok (.if_icmp .gt 24, 3) := by decide +kernel
theorem dX7_digest_66 : decode cX7_digest 66 = .ok (.ldc2_w 244, 3) := by decide +kernel
theorem dX7_digest_69 : decode cX7_digest 69 = .ok (.lload_n 1, 1) := by decide +kernel
theorem dX7_digest_70 : decode cX7_digest 70 = .ok (.lmul, 1) := by decide +kernel
theorem dX7_digest_71 : decode cX7_digest 71 = .ok (.aload_n 0, 1) := by decide +kernel
theorem dX7_digest_72 : decode cX7_digest 72 = .ok (.iload_n 3, 1) := by decide +kernel
theorem dX7_digest_73 : decode cX7_digest 73 = .ok (.iload 4, 2) := by decide +kernel
theorem dX7_digest_75 : decode cX7_digest 75 = .ok (.invokevirtual 249, 3) := by decide +kernel
theorem dX7_digest_78 : decode cX7_digest 78 = .ok (.i2l, 1) := by decide +kernel
theorem dX7_digest_79 : decode cX7_digest 79 = .ok (.ladd, 1) := by decide +kernel
theorem dX7_digest_80 : decode cX7_digest 80 = .ok (.lstore_n 1, 1) := by decide +kernel
theorem dX7_digest_81 : decode cX7_digest 81 = .ok (.iinc 4 1, 3) := by decide +kernel
theorem dX7_digest_84 : decode cX7_digest 84 = .ok (.goto (-24), 3) := by decide +kernel
theorem dX7_digest_87 : decode cX7_digest 87 = .ok (.iinc 3 1, 3) := by decide +kernel
theorem dX7_digest_90 : decode cX7_digest 90 = .ok (.goto (-44), 3) := by decide +kernel
theorem dX7_digest_93 : decode cX7_digest 93 = .ok (.iconst 0, 1) := by decide +kernel
theorem dX7_digest_94 : decode cX7_digest 94 = .ok (.istore_n 3, 1) := by decide +kernel
theorem dX7_digest_95 : decode cX7_digest 95 = .ok (.iload_n 3, 1) := by decide +kernel
theorem dX7_digest_96 : decode cX7_digest 96 = .ok (.aload_n 0, 1) := by decide +kernel
theorem dX7_digest_97 : decode cX7_digest 97 = .ok (.getfield 28, 3) := by decide +kernel
theorem dX7_digest_100 : decode cX7_digest 100 = .ok (.getfield 147, 3) := by decide +kernel
theorem dX7_digest_103 : decode cX7_digest 103 = .ok (.if_icmp .ge 22, 3) := by decide +kernel
theorem dX7_digest_106 : decode cX7_digest 106 = .ok (.ldc2_w 244, 3) := by decide +kernel
theorem dX7_digest_109 : decode cX7_digest 109 = .ok (.lload_n 1, 1) := by decide +kernel
theorem dX7_digest_110 : decode cX7_digest 110 = .ok (.lmul, 1) := by decide +kernel
theorem dX7_digest_111 : decode cX7_digest 111 = .ok (.aload_n 0, 1) := by decide +kernel
theorem dX7_digest_112 : decode cX7_digest 112 = .ok (.iload_n 3, 1) := by decide +kernel
theorem dX7_digest_113 : decode cX7_digest 113 = .ok (.invokevirtual 252, 3) := by decide +kernel
theorem dX7_digest_116 : decode cX7_digest 116 = .ok (.i2l, 1) := by decide +kernel
theorem dX7_digest_117 : decode cX7_digest 117 = .ok (.ladd, 1) := by decide +kernel
theorem dX7_digest_118 : decode cX7_digest 118 = .ok (.lstore_n 1, 1) := by decide +kernel
theorem dX7_digest_119 : decode cX7_digest 119 = .ok (.iinc 3 1, 3) := by decide +kernel
theorem dX7_digest_122 : decode cX7_digest 122 = .ok (.goto (-27), 3) := by decide +kernel
theorem dX7_digest_125 : decode cX7_digest 125 = .ok (.iconst 0, 1) := by decide +kernel
theorem dX7_digest_126 : decode cX7_digest 126 = .ok (.istore_n 3, 1) := by decide +kernel
theorem dX7_digest_127 : decode cX7_digest 127 = .ok (.iload_n 3, 1) := by decide +kernel
theorem dX7_digest_128 : decode cX7_digest 128 = .ok (.bipush 7, 2) := by decide +kernel
theorem dX7_digest_130 : decode cX7_digest 130 = .ok (.if_icmp .ge 22, 3) := by decide +kernel
theorem dX7_digest_133 : decode cX7_digest 133 = .ok (.ldc2_w 244, 3) := by decide +kernel
theorem dX7_digest_136 : decode cX7_digest 136 = .ok (.lload_n 1, 1) := by decide +kernel
theorem dX7_digest_137 : decode cX7_digest 137 = .ok (.lmul, 1) := by decide +kernel
theorem dX7_digest_138 : decode cX7_digest 138 = .ok (.aload_n 0, 1) := by decide +kernel
theorem dX7_digest_139 : decode cX7_digest 139 = .ok (.iload_n 3, 1) := by decide +kernel
theorem dX7_digest_140 : decode cX7_digest 140 = .ok (.invokevirtual 255, 3) := by decide +kernel
theorem dX7_digest_143 : decode cX7_digest 143 = .ok (.i2l, 1) := by decide +kernel
theorem dX7_digest_144 : decode cX7_digest 144 = .ok (.ladd, 1) := by decide +kernel
theorem dX7_digest_145 : decode cX7_digest 145 = .ok (.lstore_n 1, 1) := by decide +kernel
theorem dX7_digest_146 : decode cX7_digest 146 = .ok (.iinc 3 1, 3) := by decide +kernel
theorem dX7_digest_149 : decode cX7_digest 149 = .ok (.goto (-22), 3) := by decide +kernel
theorem dX7_digest_152 : decode cX7_digest 152 = .ok (.lload_n 1, 1) := by decide +kernel
theorem dX7_digest_153 : decode cX7_digest 153 = .ok (.lreturn, 1) := by decide +kernel
theorem dX7_within_0 : decode cX7_within 0 = .ok (.iload_n 0, 1) := by decide +kernel
theorem dX7_within_1 : decode cX7_within 1 = .ok (.iload_n 1, 1) := by decide +kernel
theorem dX7_within_2 : decode cX7_within 2 = .ok (.if_icmp .lt 12, 3) := by decide +kernel
theorem dX7_within_5 : decode cX7_within 5 = .ok (.iload_n 0, 1) := by decide +kernel
theorem dX7_within_6 : decode cX7_within 6 = .ok (.iload_n 2, 1) := by decide +kernel
theorem dX7_within_7 : decode cX7_within 7 = .ok (.if_icmp .gt 7, 3) := by decide +kernel
theorem dX7_within_10 : decode cX7_within 10 = .ok (.iconst 1, 1) := by decide +kernel
theorem dX7_within_11 : decode cX7_within 11 = .ok (.goto 4, 3) := by decide +kernel
theorem dX7_within_14 : decode cX7_within 14 = .ok (.iconst 0, 1) := by decide +kernel
theorem dX7_within_15 : decode cX7_within 15 = .ok (.ireturn, 1) := by decide +kernel
set_option maxRecDepth 20000 in
theorem ggX7_isKind_X7_within : GoodIn wsX7_isKind wsX7_within := goodIn_r _ [5] (by decide +kernel) (by decide +kernel)
set_option maxRecDepth 20000 in
theorem gX7_isKind_X7_within : GoodIn wsX7_isKind (va_wsS RX7 61 yX7_within wsX7_within) := goodIn_app (goodIn_of _ (by decide +kernel)) ggX7_isKind_X7_within
theorem dX7_isKind_0 : decode cX7_isKind 0 = .ok (.iload_n 1, 1) := by decide +kernel
theorem dX7_isKind_1 : decode cX7_isKind 1 = .ok (.iconst 0, 1) := by decide +kernel
theorem dX7_isKind_2 : decode cX7_isKind 2 = .ok (.aload_n 0, 1) := by decide +kernel
theorem dX7_isKind_3 : decode cX7_isKind 3 = .ok (.getfield 12, 3) := by decide +kernel
theorem dX7_isKind_6 : decode cX7_isKind 6 = .ok (.getfield 65, 3) := by decide +kernel
theorem dX7_isKind_9 : decode cX7_isKind 9 = .ok (.iconst 1, 1) := by decide +kernel
theorem dX7_isKind_10 : decode cX7_isKind 10 = .ok (.isub, 1) := by decide +kernel
theorem dX7_isKind_11 : decode cX7_isKind 11 = .ok (.invokestatic 61, 3) := by decide +kernel
theorem dX7_isKind_14 : decode cX7_isKind 14 = .ok (.ireturn, 1) := by decide +kernel
set_option maxRecDepth 20000 in
theorem ggX7_isKindOrAny_X7_isKind : GoodIn wsX7_isKindOrAny wsX7_isKind := goodIn_r _ [5, 6, 7, 8, 4, 9, 10, 11, 12, 13, 14, 15, 16, 17, 18, 19, 20, 21, 22] (by decide +kernel) (by decide +kernel)
set_option maxRecDepth 20000 in
theorem gX7_isKindOrAny_X7_isKind : GoodIn wsX7_isKindOrAny (wsV RX7 72 RX7 yX7_isKind wsX7_isKind) := goodIn_app (goodIn_of _ (by decide +kernel)) ggX7_isKindOrAny_X7_isKind
theorem dX7_isKindOrAny_0 : decode cX7_isKindOrAny 0 = .ok (.iload_n 1, 1) := by decide +kernel
theorem dX7_isKindOrAny_1 : decode cX7_isKindOrAny 1 = .ok (.iconst (-1), 1) := by decide +kernel
theorem dX7_isKindOrAny_2 : decode cX7_isKindOrAny 2 = .ok (.if_icmp .eq 11, 3) := by decide +kernel
theorem dX7_isKindOrAny_5 : decode cX7_isKindOrAny 5 = .ok (.aload_n 0, 1) := by decide +kernel
theorem dX7_isKindOrAny_6 : decode cX7_isKindOrAny 6 = .ok (.iload_n 1, 1) := by decide +kernel
theorem dX7_isKindOrAny_7 : decode cX7_isKindOrAny 7 = .ok (.invokevirtual 72, 3) := by decide +kernel
theorem dX7_isKindOrAny_10 : decode cX7_isKindOrAny 10 = .ok (.ifCond .eq 7, 3) := by decide +kernel
theorem dX7_isKindOrAny_13 : decode cX7_isKindOrAny 13 = .ok (.iconst 1, 1) := by decide +kernel
theorem dX7_isKindOrAny_14 : decode cX7_isKindOrAny 14 = .ok (.goto 4, 3) := by decide +kernel
theorem dX7_isKindOrAny_17 : decode cX7_isKindOrAny 17 = .ok (.iconst 0, 1) := by decide +kernel
theorem dX7_isKindOrAny_18 : decode cX7_isKindOrAny 18 = .ok (.ireturn, 1) := by decide +kernel
set_option maxRecDepth 20000 in
theorem ggX7_isPiece_X7_within : GoodIn wsX7_isPiece wsX7_within := goodIn_r _ [5] (by decide +kernel) (by decide +kernel)
set_option maxRecDepth 20000 in
theorem gX7_isPiece_X7_within : GoodIn wsX7_isPiece (va_wsS RX7 61 yX7_within wsX7_within) := goodIn_app (goodIn_of _ (by decide +kernel)) ggX7_isPiece_X7_within
theorem dX7_isPiece_0 : decode cX7_isPiece 0 = .ok (.iload_n 1, 1) := by decide +kernel
theorem dX7_isPiece_1 : decode cX7_isPiece 1 = .ok (.iconst 0, 1) := by decide +kernel
theorem dX7_isPiece_2 : decode cX7_isPiece 2 = .ok (.aload_n 0, 1) := by decide +kernel
theorem dX7_isPiece_3 : decode cX7_isPiece 3 = .ok (.getfield 19, 3) := by decide +kernel
theorem dX7_isPiece_6 : decode cX7_isPiece 6 = .ok (.getfield 79, 3) := by decide +kernel
theorem dX7_isPiece_9 : decode cX7_isPiece 9 = .ok (.iconst 1, 1) := by decide +kernel
theorem dX7_isPiece_10 : decode cX7_isPiece 10 = .ok (.isub, 1) := by decide +kernel
theorem dX7_isPiece_11 : decode cX7_isPiece 11 = .ok (.invokestatic 61, 3) := by decide +kernel
theorem dX7_isPiece_14 : decode cX7_isPiece 14 = .ok (.ireturn, 1) := by decide +kernel
set_option maxRecDepth 20000 in
theorem ggX7_isOrderPlace_X7_within : GoodIn wsX7_isOrderPlace wsX7_within := goodIn_r _ [5] (by decide +kernel) (by decide +kernel)
set_option maxRecDepth 20000 in
theorem gX7_isOrderPlace_X7_within : GoodIn wsX7_isOrderPlace (va_wsS RX7 61 yX7_within wsX7_within) := goodIn_app (goodIn_of _ (by decide +kernel)) ggX7_isOrderPlace_X7_within
theorem dX7_isOrderPlace_0 : decode cX7_isOrderPlace 0 = .ok (.iload_n 1, 1) := by decide +kernel
theorem dX7_isOrderPlace_1 : decode cX7_isOrderPlace 1 = .ok (.iconst 0, 1) := by decide +kernel
theorem dX7_isOrderPlace_2 : decode cX7_isOrderPlace 2 = .ok (.aload_n 0, 1) := by decide +kernel
theorem dX7_isOrderPlace_3 : decode cX7_isOrderPlace 3 = .ok (.getfield 28, 3) := by decide +kernel
theorem dX7_isOrderPlace_6 : decode cX7_isOrderPlace 6 = .ok (.getfield 147, 3) := by decide +kernel
theorem dX7_isOrderPlace_9 : decode cX7_isOrderPlace 9 = .ok (.iconst 1, 1) := by decide +kernel
theorem dX7_isOrderPlace_10 : decode cX7_isOrderPlace 10 = .ok (.isub, 1) := by decide +kernel
theorem dX7_isOrderPlace_11 : decode cX7_isOrderPlace 11 = .ok (.invokestatic 61, 3) := by decide +kernel
theorem dX7_isOrderPlace_14 : decode cX7_isOrderPlace 14 = .ok (.ireturn, 1) := by decide +kernel
set_option maxRecDepth 20000 in
theorem ggX7_isOwner_X7_within : GoodIn wsX7_isOwner wsX7_within := goodIn_r _ [4] (by decide +kernel) (by decide +kernel)
set_option maxRecDepth 20000 in
theorem gX7_isOwner_X7_within : GoodIn wsX7_isOwner (va_wsS RX7 61 yX7_within wsX7_within) := goodIn_app (goodIn_of _ (by decide +kernel)) ggX7_isOwner_X7_within
theorem dX7_isOwner_0 : decode cX7_isOwner 0 = .ok (.iload_n 0, 1) := by decide +kernel
theorem dX7_isOwner_1 : decode cX7_isOwner 1 = .ok (.iconst 0, 1) := by decide +kernel
theorem dX7_isOwner_2 : decode cX7_isOwner 2 = .ok (.iconst 5, 1) := by decide +kernel
theorem dX7_isOwner_3 : decode cX7_isOwner 3 = .ok (.invokestatic 61, 3) := by decide +kernel
theorem dX7_isOwner_6 : decode cX7_isOwner 6 = .ok (.ireturn, 1) := by decide +kernel
set_option maxRecDepth 20000 in
theorem ggX7_isOwnerOrAny_X7_isOwner : GoodIn wsX7_isOwnerOrAny wsX7_isOwner := goodIn_r _ [4, 5, 6, 3, 7] (by decide +kernel) (by decide +kernel)
set_option maxRecDepth 20000 in
theorem gX7_isOwnerOrAny_X7_isOwner : GoodIn wsX7_isOwnerOrAny (va_wsS RX7 76 yX7_isOwner wsX7_isOwner) := goodIn_app (goodIn_of _ (by decide +kernel)) ggX7_isOwnerOrAny_X7_isOwner
theorem dX7_isOwnerOrAny_0 : decode cX7_isOwnerOrAny 0 = .ok (.iload_n 0, 1) := by decide +kernel
theorem dX7_isOwnerOrAny_1 : decode cX7_isOwnerOrAny 1 = .ok (.iconst (-1), 1) := by decide +kernel
theorem dX7_isOwnerOrAny_2 : decode cX7_isOwnerOrAny 2 = .ok (.if_icmp .eq 10, 3) := by decide +kernel
theorem dX7_isOwnerOrAny_5 : decode cX7_isOwnerOrAny 5 = .ok (.iload_n 0, 1) := by decide +kernel
theorem dX7_isOwnerOrAny_6 : decode cX7_isOwnerOrAny 6 = .ok (.invokestatic 76, 3) := by decide +kernel
theorem dX7_isOwnerOrAny_9 : decode cX7_isOwnerOrAny 9 = .ok (.ifCond .eq 7, 3) := by decide +kernel
theorem dX7_isOwnerOrAny_12 : decode cX7_isOwnerOrAny 12 = .ok (.iconst 1, 1) := by decide +kernel
theorem dX7_isOwnerOrAny_13 : decode cX7_isOwnerOrAny 13 = .ok (.goto 4, 3) := by decide +kernel
theorem dX7_isOwnerOrAny_16 : decode cX7_isOwnerOrAny 16 = .ok (.iconst 0, 1) := by decide +kernel
theorem dX7_isOwnerOrAny_17 : decode cX7_isOwnerOrAny 17 = .ok (.ireturn, 1) := by decide +kernel
set_option maxRecDepth 20000 in
theorem ggX7_isPlace_X7_within : GoodIn wsX7_isPlace wsX7_within := goodIn_r _ [4] (by decide +kernel) (by decide +kernel)
set_option maxRecDepth 20000 in
theorem gX7_isPlace_X7_within : GoodIn wsX7_isPlace (va_wsS RX7 61 yX7_within wsX7_within) := goodIn_app (goodIn_of _ (by decide +kernel)) ggX7_isPlace_X7_within
theorem dX7_isPlace_0 : decode cX7_isPlace 0 = .ok (.iload_n 0, 1) := by decide +kernel
theorem dX7_isPlace_1 : decode cX7_isPlace 1 = .ok (.iconst 0, 1) := by decide +kernel
theorem dX7_isPlace_2 : decode cX7_isPlace 2 = .ok (.iconst 4, 1) := by decide +kernel
theorem dX7_isPlace_3 : decode cX7_isPlace 3 = .ok (.invokestatic 61, 3) := by decide +kernel
theorem dX7_isPlace_6 : decode cX7_isPlace 6 = .ok (.ireturn, 1) := by decide +kernel
set_option maxRecDepth 20000 in
theorem ggX7_isSheet_X7_within : GoodIn wsX7_isSheet wsX7_within := goodIn_r _ [4] (by decide +kernel) (by decide +kernel)
set_option maxRecDepth 20000 in
theorem gX7_isSheet_X7_within : GoodIn wsX7_isSheet (va_wsS RX7 61 yX7_within wsX7_within) := goodIn_app (goodIn_of _ (by decide +kernel)) ggX7_isSheet_X7_within
theorem dX7_isSheet_0 : decode cX7_isSheet 0 = .ok (.iload_n 0, 1) := by decide +kernel
theorem dX7_isSheet_1 : decode cX7_isSheet 1 = .ok (.iconst 0, 1) := by decide +kernel
theorem dX7_isSheet_2 : decode cX7_isSheet 2 = .ok (.iconst 3, 1) := by decide +kernel
theorem dX7_isSheet_3 : decode cX7_isSheet 3 = .ok (.invokestatic 61, 3) := by decide +kernel
theorem dX7_isSheet_6 : decode cX7_isSheet 6 = .ok (.ireturn, 1) := by decide +kernel
set_option maxRecDepth 20000 in
theorem ggX7_isForm_X7_within : GoodIn wsX7_isForm wsX7_within := goodIn_r _ [4] (by decide +kernel) (by decide +kernel)
set_option maxRecDepth 20000 in
theorem gX7_isForm_X7_within : GoodIn wsX7_isForm (va_wsS RX7 61 yX7_within wsX7_within) := goodIn_app (goodIn_of _ (by decide +kernel)) ggX7_isForm_X7_within
theorem dX7_isForm_0 : decode cX7_isForm 0 = .ok (.iload_n 0, 1) := by decide +kernel
theorem dX7_isForm_1 : decode cX7_isForm 1 = .ok (.iconst 0, 1) := by decide +kernel
theorem dX7_isForm_2 : decode cX7_isForm 2 = .ok (.iconst 2, 1) := by decide +kernel
theorem dX7_isForm_3 : decode cX7_isForm 3 = .ok (.invokestatic 61, 3) := by decide +kernel
theorem dX7_isForm_6 : decode cX7_isForm 6 = .ok (.ireturn, 1) := by decide +kernel
theorem dX7_find_0 : decode cX7_find 0 = .ok (.aload_n 0, 1) := by decide +kernel
theorem dX7_find_1 : decode cX7_find 1 = .ok (.iload_n 1, 1) := by decide +kernel
theorem dX7_find_2 : decode cX7_find 2 = .ok (.putfield 57, 3) := by decide +kernel
theorem dX7_find_5 : decode cX7_find 5 = .ok (.bipush (-10), 2) := by decide +kernel
theorem dX7_find_7 : decode cX7_find 7 = .ok (.iload_n 1, 1) := by decide +kernel
theorem dX7_find_8 : decode cX7_find 8 = .ok (.isub, 1) := by decide +kernel
theorem dX7_find_9 : decode cX7_find 9 = .ok (.ireturn, 1) := by decide +kernel
set_option maxRecDepth 20000 in
theorem ggX7_soilFrom_X7_isPiece : GoodIn wsX7_soilFrom wsX7_isPiece := goodIn_r _ [6, 1, 7, 8, 5, 9, 20, 21, 22, 23, 24, 25, 26, 27, 28, 29, 30, 31, 32, 33] (by decide +kernel) (by decide +kernel)
set_option maxRecDepth 20000 in
theorem gX7_soilFrom_X7_isPiece : GoodIn wsX7_soilFrom (wsV RX7 83 RX7 yX7_isPiece wsX7_isPiece) := goodIn_app (goodIn_of _ (by decide +kernel)) ggX7_soilFrom_X7_isPiece
set_option maxRecDepth 20000 in
theorem ggX7_soilFrom_X4_read : GoodIn wsX7_soilFrom wsX4_read := goodIn_r _ [14, 15, 34] (by decide +kernel) (by decide +kernel)
set_option maxRecDepth 20000 in
theorem gX7_soilFrom_X4_read : GoodIn wsX7_soilFrom (wsV RX7 90 RX4 yX4_read wsX4_read) := goodIn_app (goodIn_of _ (by decide +kernel)) ggX7_soilFrom_X4_read
set_option maxRecDepth 20000 in
theorem ggX7_soilFrom_X4_write : GoodIn wsX7_soilFrom wsX4_write := goodIn_r _ [19, 15, 34] (by decide +kernel) (by decide +kernel)
set_option maxRecDepth 20000 in
theorem gX7_soilFrom_X4_write : GoodIn wsX7_soilFrom (wsV RX7 111 RX4 yX4_write wsX4_write) := goodIn_app (goodIn_of _ (by decide +kernel)) ggX7_soilFrom_X4_write
theorem dX7_soilFrom_0 : decode cX7_soilFrom 0 = .ok (.aload_n 0, 1) := by decide +kernel
theorem dX7_soilFrom_1 : decode cX7_soilFrom 1 = .ok (.iload_n 1, 1) := by decide +kernel
theorem dX7_soilFrom_2 : decode cX7_soilFrom 2 = .ok (.invokevirtual 83, 3) := by decide +kernel
theorem dX7_soilFrom_5 : decode cX7_soilFrom 5 = .ok (.ifCond .ne 6, 3) := by decide +kernel
theorem dX7_soilFrom_8 : decode cX7_soilFrom 8 = .ok (.bipush (-2), 2) := by decide +kernel
theorem dX7_soilFrom_10 : decode cX7_soilFrom 10 = .ok (.ireturn, 1) := by decide +kernel
theorem dX7_soilFrom_11 : decode cX7_soilFrom 11 = .ok (.aload_n 0, 1) := by decide +kernel
theorem dX7_soilFrom_12 : decode cX7_soilFrom 12 = .ok (.getfield 19, 3) := by decide +kernel
theorem dX7_soilFrom_15 : decode cX7_soilFrom 15 = .ok (.getfield 102, 3) := by decide +kernel
theorem dX7_soilFrom_18 : decode cX7_soilFrom 18 = .ok (.iload_n 1, 1) := by decide +kernel
theorem dX7_soilFrom_19 : decode cX7_soilFrom 19 = .ok (.invokevirtual 90, 3) := by decide +kernel
theorem dX7_soilFrom_22 : decode cX7_soilFrom 22 = .ok (.iload_n 2, 1) := by decide +kernel
theorem dX7_soilFrom_23 : decode cX7_soilFrom 23 = .ok (.if_icmp .eq 6, 3) := by decide +kernel
theorem dX7_soilFrom_26 : decode cX7_soilFrom 26 = .ok (.bipush (-4), 2) := by decide +kernel
theorem dX7_soilFrom_28 : decode cX7_soilFrom 28 = .ok (.ireturn, 1) := by decide +kernel
theorem dX7_soilFrom_29 : decode cX7_soilFrom 29 = .ok (.aload_n 0, 1) := by decide +kernel
theorem dX7_soilFrom_30 : decode cX7_soilFrom 30 = .ok (.getfield 19, 3) := by decide +kernel
theorem dX7_soilFrom_33 : decode cX7_soilFrom 33 = .ok (.getfield 102, 3) := by decide +kernel
theorem dX7_soilFrom_36 : decode cX7_soilFrom 36 = .ok (.iload_n 1, 1) := by decide +kernel
theorem dX7_soilFrom_37 : decode cX7_soilFrom 37 = .ok (.iconst 1, 1) := by decide +kernel
theorem dX7_soilFrom_38 : decode cX7_soilFrom 38 = .ok (.invokevirtual 111, 3) := by decide +kernel
theorem dX7_soilFrom_41 : decode cX7_soilFrom 41 = .ok (.iconst 1, 1) := by decide +kernel
theorem dX7_soilFrom_42 : decode cX7_soilFrom 42 = .ok (.ireturn, 1) := by decide +kernel
