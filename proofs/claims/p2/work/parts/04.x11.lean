set_option maxRecDepth 20000 in
theorem ggX11_init_X10_init : GoodIn wsX11_init wsX10_init := goodIn_r _ [47, 48, 2, 3, 49, 50, 158, 159] (by decide +kernel) (by decide +kernel)
set_option maxRecDepth 20000 in
theorem gX11_init_X10_init_n9 : GoodIn wsX11_init (wsX10_init) := ggX11_init_X10_init
set_option maxRecDepth 20000 in
theorem ggX11_init_X5_init : GoodIn wsX11_init wsX5_init := goodIn_r _ [53, 54, 2, 3, 22, 55, 56, 57, 58, 59, 60, 61, 62, 63, 64, 177, 178, 223, 224, 225] (by decide +kernel) (by decide +kernel)
set_option maxRecDepth 20000 in
theorem gX11_init_X5_init : GoodIn wsX11_init (wsX5_init) := ggX11_init_X5_init
set_option maxRecDepth 20000 in
theorem ggX11_init_X8_init : GoodIn wsX11_init wsX8_init := goodIn_r _ [67, 68, 2, 3, 22, 69, 70, 57, 58, 71, 72, 61, 62, 63, 64, 179, 180, 181, 182, 223, 224, 225] (by decide +kernel) (by decide +kernel)
set_option maxRecDepth 20000 in
theorem gX11_init_X8_init : GoodIn wsX11_init (wsX8_init) := ggX11_init_X8_init
set_option maxRecDepth 20000 in
theorem ggX11_init_X4_init : GoodIn wsX11_init wsX4_init := goodIn_r _ [75, 76, 2, 3, 22, 77, 78, 79, 80, 81, 82, 83, 84, 18, 85, 86, 87, 88, 89, 90, 91, 92, 93, 94, 95, 96, 97, 98, 183, 184, 185, 186, 187, 188, 189, 190, 191, 192, 193, 194, 195, 196] (by decide +kernel) (by decide +kernel)
set_option maxRecDepth 20000 in
theorem gX11_init_X4_init : GoodIn wsX11_init (wsX4_init) := ggX11_init_X4_init
set_option maxRecDepth 20000 in
theorem ggX11_init_X1_init : GoodIn wsX11_init wsX1_init := goodIn_r _ [100, 101, 2, 3, 102, 103, 104, 197, 198, 199, 200, 201, 202] (by decide +kernel) (by decide +kernel)
set_option maxRecDepth 20000 in
theorem gX11_init_X1_init_n51 : GoodIn wsX11_init (wsX1_init) := ggX11_init_X1_init
set_option maxRecDepth 20000 in
theorem ggX11_init_X6_init : GoodIn wsX11_init wsX6_init := goodIn_r _ [106, 107, 2, 3, 102, 108, 22, 109, 110, 111, 203, 204, 205, 206, 207] (by decide +kernel) (by decide +kernel)
set_option maxRecDepth 20000 in
theorem gX11_init_X6_init_n58 : GoodIn wsX11_init (wsX6_init) := ggX11_init_X6_init
set_option maxRecDepth 20000 in
theorem ggX11_init_X9_init : GoodIn wsX11_init wsX9_init := goodIn_r _ [113, 114, 2, 3] (by decide +kernel) (by decide +kernel)
set_option maxRecDepth 20000 in
theorem gX11_init_X9_init_n68 : GoodIn wsX11_init (wsX9_init) := ggX11_init_X9_init
set_option maxRecDepth 20000 in
theorem ggX11_init_X7_init : GoodIn wsX11_init wsX7_init := goodIn_r _ [116, 117, 2, 3, 22, 118, 119, 120, 34, 35, 121, 112, 113, 114, 214, 215, 216, 217, 218, 219, 220, 221, 222, 208, 209, 210, 211, 212, 213] (by decide +kernel) (by decide +kernel)
set_option maxRecDepth 20000 in
theorem gX11_init_X7_init_n85 : GoodIn wsX11_init (wsX7_init) := ggX11_init_X7_init
set_option maxRecDepth 20000 in
theorem ggX11_init_X4_settle : GoodIn wsX11_init wsX4_settle := goodIn_r _ [125, 81, 126, 95, 96, 97, 98, 127, 128, 129, 130, 131, 132, 133, 134, 135, 136, 137, 138, 139, 140, 18, 141, 142, 143, 144, 145, 146, 147, 148, 149, 150, 151, 152, 153, 79, 94, 154, 155, 156, 157, 183, 184, 185, 186, 187, 188, 189, 190, 191, 192, 193, 194, 195, 196] (by decide +kernel) (by decide +kernel)
set_option maxRecDepth 20000 in
theorem gX11_init_X4_settle : GoodIn wsX11_init (wsV RX11 94 RX4 yX4_settle wsX4_settle) := goodIn_app (goodIn_of _ (by decide +kernel)) ggX11_init_X4_settle
theorem dX11_init_0 : decode cX11_init 0 = .ok (.aload_n 0, 1) := by decide +kernel
theorem dX11_init_1 : decode cX11_init 1 = .ok (.invokespecial 1, 3) := by decide +kernel
theorem dX11_init_4 : decode cX11_init 4 = .ok (.aload_n 0, 1) := by decide +kernel
theorem dX11_init_5 : decode cX11_init 5 = .ok (.new 7, 3) := by decide +kernel
theorem dX11_init_8 : decode cX11_init 8 = .ok (.dup, 1) := by decide +kernel
theorem dX11_init_9 : decode cX11_init 9 = .ok (.invokespecial 9, 3) := by decide +kernel
theorem dX11_init_12 : decode cX11_init 12 = .ok (.putfield 10, 3) := by decide +kernel
theorem dX11_init_15 : decode cX11_init 15 = .ok (.aload_n 0, 1) := by decide +kernel
theorem dX11_init_16 : decode cX11_init 16 = .ok (.new 16, 3) := by decide +kernel
theorem dX11_init_19 : decode cX11_init 19 = .ok (.dup, 1) := by decide +kernel
theorem dX11_init_20 : decode cX11_init 20 = .ok (.aload_n 0, 1) := by decide +kernel
theorem dX11_init_21 : decode cX11_init 21 = .ok (.getfield 10, 3) := by decide +kernel
theorem dX11_init_24 : decode cX11_init 24 = .ok (.invokespecial 18, 3) := by decide +kernel
theorem dX11_init_27 : decode cX11_init 27 = .ok (.putfield 21, 3) := by decide +kernel
theorem dX11_init_30 : decode cX11_init 30 = .ok (.aload_n 0, 1) := by decide +kernel
theorem dX11_init_31 : decode cX11_init 31 = .ok (.new 25, 3) := by decide +kernel
theorem dX11_init_34 : decode cX11_init 34 = .ok (.dup, 1) := by decide +kernel
theorem dX11_init_35 : decode cX11_init 35 = .ok (.aload_n 0, 1) := by decide +kernel
theorem dX11_init_36 : decode cX11_init 36 = .ok (.getfield 10, 3) := by decide +kernel
theorem dX11_init_39 : decode cX11_init 39 = .ok (.invokespecial 27, 3) := by decide +kernel
theorem dX11_init_42 : decode cX11_init 42 = .ok (.putfield 28, 3) := by decide +kernel
theorem dX11_init_45 : decode cX11_init 45 = .ok (.aload_n 0, 1) := by decide +kernel
theorem dX11_init_46 : decode cX11_init 46 = .ok (.new 32, 3) := by decide +kernel
theorem dX11_init_49 : decode cX11_init 49 = .ok (.dup, 1) := by decide +kernel
theorem dX11_init_50 : decode cX11_init 50 = .ok (.invokespecial 34, 3) := by decide +kernel
theorem dX11_init_53 : decode cX11_init 53 = .ok (.putfield 35, 3) := by decide +kernel
theorem dX11_init_56 : decode cX11_init 56 = .ok (.aload_n 0, 1) := by decide +kernel
theorem dX11_init_57 : decode cX11_init 57 = .ok (.new 32, 3) := by decide +kernel
theorem dX11_init_60 : decode cX11_init 60 = .ok (.dup, 1) := by decide +kernel
theorem dX11_init_61 : decode cX11_init 61 = .ok (.invokespecial 34, 3) := by decide +kernel
theorem dX11_init_64 : decode cX11_init 64 = .ok (.putfield 39, 3) := by decide +kernel
theorem dX11_init_67 : decode cX11_init 67 = .ok (.aload_n 0, 1) := by decide +kernel
theorem dX11_init_68 : decode cX11_init 68 = .ok (.new 32, 3) := by decide +kernel
theorem dX11_init_71 : decode cX11_init 71 = .ok (.dup, 1) := by decide +kernel
theorem dX11_init_72 : decode cX11_init 72 = .ok (.invokespecial 34, 3) := by decide +kernel
theorem dX11_init_75 : decode cX11_init 75 = .ok (.putfield 42, 3) := by decide +kernel
theorem dX11_init_78 : decode cX11_init 78 = .ok (.aload_n 0, 1) := by decide +kernel
theorem dX11_init_79 : decode cX11_init 79 = .ok (.bipush 15, 2) := by decide +kernel
theorem dX11_init_81 : decode cX11_init 81 = .ok (.newarray .int, 2) := by decide +kernel
theorem dX11_init_83 : decode cX11_init 83 = .ok (.putfield 45, 3) := by decide +kernel
theorem dX11_init_86 : decode cX11_init 86 = .ok (.aload_n 0, 1) := by decide +kernel
theorem dX11_init_87 : decode cX11_init 87 = .ok (.new 49, 3) := by decide +kernel
theorem dX11_init_90 : decode cX11_init 90 = .ok (.dup, 1) := by decide +kernel
theorem dX11_init_91 : decode cX11_init 91 = .ok (.invokespecial 51, 3) := by decide +kernel
theorem dX11_init_94 : decode cX11_init 94 = .ok (.putfield 52, 3) := by decide +kernel
theorem dX11_init_97 : decode cX11_init 97 = .ok (.aload_n 0, 1) := by decide +kernel
theorem dX11_init_98 : decode cX11_init 98 = .ok (.new 56, 3) := by decide +kernel
theorem dX11_init_101 : decode cX11_init 101 = .ok (.dup, 1) := by decide +kernel
theorem dX11_init_102 : decode cX11_init 102 = .ok (.invokespecial 58, 3) := by decide +kernel
theorem dX11_init_105 : decode cX11_init 105 = .ok (.putfield 59, 3) := by decide +kernel
theorem dX11_init_108 : decode cX11_init 108 = .ok (.aload_n 0, 1) := by decide +kernel
theorem dX11_init_109 : decode cX11_init 109 = .ok (.new 56, 3) := by decide +kernel
theorem dX11_init_112 : decode cX11_init 112 = .ok (.dup, 1) := by decide +kernel
theorem dX11_init_113 : decode cX11_init 113 = .ok (.invokespecial 58, 3) := by decide +kernel
theorem dX11_init_116 : decode cX11_init 116 = .ok (.putfield 63, 3) := by decide +kernel
theorem dX11_init_119 : decode cX11_init 119 = .ok (.aload_n 0, 1) := by decide +kernel
theorem dX11_init_120 : decode cX11_init 120 = .ok (.new 66, 3) := by decide +kernel
theorem dX11_init_123 : decode cX11_init 123 = .ok (.dup, 1) := by decide +kernel
theorem dX11_init_124 : decode cX11_init 124 = .ok (.invokespecial 68, 3) := by decide +kernel
theorem dX11_init_127 : decode cX11_init 127 = .ok (.putfield 69, 3) := by decide +kernel
theorem dX11_init_130 : decode cX11_init 130 = .ok (.aload_n 0, 1) := by decide +kernel
theorem dX11_init_131 : decode cX11_init 131 = .ok (.new 66, 3) := by decide +kernel
theorem dX11_init_134 : decode cX11_init 134 = .ok (.dup, 1) := by decide +kernel
theorem dX11_init_135 : decode cX11_init 135 = .ok (.invokespecial 68, 3) := by decide +kernel
theorem dX11_init_138 : decode cX11_init 138 = .ok (.putfield 73, 3) := by decide +kernel
theorem dX11_init_141 : decode cX11_init 141 = .ok (.aload_n 0, 1) := by decide +kernel
theorem dX11_init_142 : decode cX11_init 142 = .ok (.new 66, 3) := by decide +kernel
theorem dX11_init_145 : decode cX11_init 145 = .ok (.dup, 1) := by decide +kernel
theorem dX11_init_146 : decode cX11_init 146 = .ok (.invokespecial 68, 3) := by decide +kernel
theorem dX11_init_149 : decode cX11_init 149 = .ok (.putfield 76, 3) := by decide +kernel
theorem dX11_init_152 : decode cX11_init 152 = .ok (.aload_n 0, 1) := by decide +kernel
theorem dX11_init_153 : decode cX11_init 153 = .ok (.iconst 2, 1) := by decide +kernel
theorem dX11_init_154 : decode cX11_init 154 = .ok (.newarray .boolean, 2) := by decide +kernel
theorem dX11_init_156 : decode cX11_init 156 = .ok (.putfield 79, 3) := by decide +kernel
theorem dX11_init_159 : decode cX11_init 159 = .ok (.aload_n 0, 1) := by decide +kernel
theorem dX11_init_160 : decode cX11_init 160 = .ok (.new 83, 3) := by decide +kernel
theorem dX11_init_163 : decode cX11_init 163 = .ok (.dup, 1) := by decide +kernel
theorem dX11_init_164 : decode cX11_init 164 = .ok (.invokespecial 85, 3) := by decide +kernel
theorem dX11_init_167 : decode cX11_init 167 = .ok (.putfield 86, 3) := by decide +kernel
theorem dX11_init_170 : decode cX11_init 170 = .ok (.aload_n 0, 1) := by decide +kernel
theorem dX11_init_171 : decode cX11_init 171 = .ok (.bipush (-9), 2) := by decide +kernel
theorem dX11_init_173 : decode cX11_init 173 = .ok (.putfield 90, 3) := by decide +kernel
theorem dX11_init_176 : decode cX11_init 176 = .ok (.aload_n 0, 1) := by decide +kernel
theorem dX11_init_177 : decode cX11_init 177 = .ok (.getfield 39, 3) := by decide +kernel
theorem dX11_init_180 : decode cX11_init 180 = .ok (.invokevirtual 94, 3) := by decide +kernel
theorem dX11_init_183 : decode cX11_init 183 = .ok (.return_, 1) := by decide +kernel
set_option maxRecDepth 20000 in
theorem ggX11_write_X10_hasRoom : GoodIn wsX11_write wsX10_hasRoom := goodIn_r _ [7, 8, 31, 32] (by decide +kernel) (by decide +kernel)
set_option maxRecDepth 20000 in
theorem gX11_write_X10_hasRoom : GoodIn wsX11_write (wsV RX11 97 RX10 yX10_hasRoom wsX10_hasRoom) := goodIn_app (goodIn_of _ (by decide +kernel)) ggX11_write_X10_hasRoom
set_option maxRecDepth 20000 in
theorem ggX11_write_X10_append : GoodIn wsX11_write wsX10_append := goodIn_r _ [12, 13, 8, 31, 32] (by decide +kernel) (by decide +kernel)
set_option maxRecDepth 20000 in
theorem gX11_write_X10_append : GoodIn wsX11_write (wsV RX11 101 RX10 yX10_append wsX10_append) := goodIn_app (goodIn_of _ (by decide +kernel)) ggX11_write_X10_append
theorem dX11_write_0 : decode cX11_write 0 = .ok (.iload_n 1, 1) := by decide +kernel
theorem dX11_write_1 : decode cX11_write 1 = .ok (.iconst 1, 1) := by decide +kernel
theorem dX11_write_2 : decode cX11_write 2 = .ok (.if_icmp .lt 9, 3) := by decide +kernel
theorem dX11_write_5 : decode cX11_write 5 = .ok (.iload_n 1, 1) := by decide +kernel
theorem dX11_write_6 : decode cX11_write 6 = .ok (.bipush 8, 2) := by decide +kernel
theorem dX11_write_8 : decode cX11_write 8 = .ok (.if_icmp .le 6, 3) := by decide +kernel
theorem dX11_write_11 : decode cX11_write 11 = .ok (.bipush (-2), 2) := by decide +kernel
theorem dX11_write_13 : decode cX11_write 13 = .ok (.ireturn, 1) := by decide +kernel
theorem dX11_write_14 : decode cX11_write 14 = .ok (.aload_n 0, 1) := by decide +kernel
theorem dX11_write_15 : decode cX11_write 15 = .ok (.getfield 10, 3) := by decide +kernel
theorem dX11_write_18 : decode cX11_write 18 = .ok (.iload_n 1, 1) := by decide +kernel
theorem dX11_write_19 : decode cX11_write 19 = .ok (.invokevirtual 97, 3) := by decide +kernel
theorem dX11_write_22 : decode cX11_write 22 = .ok (.ifCond .ne 6, 3) := by decide +kernel
theorem dX11_write_25 : decode cX11_write 25 = .ok (.bipush (-4), 2) := by decide +kernel
theorem dX11_write_27 : decode cX11_write 27 = .ok (.ireturn, 1) := by decide +kernel
theorem dX11_write_28 : decode cX11_write 28 = .ok (.aload_n 0, 1) := by decide +kernel
theorem dX11_write_29 : decode cX11_write 29 = .ok (.getfield 10, 3) := by decide +kernel
theorem dX11_write_32 : decode cX11_write 32 = .ok (.iload_n 1, 1) := by decide +kernel
theorem dX11_write_33 : decode cX11_write 33 = .ok (.lload_n 2, 1) := by decide +kernel
theorem dX11_write_34 : decode cX11_write 34 = .ok (.invokevirtual 101, 3) := by decide +kernel
theorem dX11_write_37 : decode cX11_write 37 = .ok (.aload_n 0, 1) := by decide +kernel
theorem dX11_write_38 : decode cX11_write 38 = .ok (.getfield 10, 3) := by decide +kernel
theorem dX11_write_41 : decode cX11_write 41 = .ok (.getfield 105, 3) := by decide +kernel
theorem dX11_write_44 : decode cX11_write 44 = .ok (.ireturn, 1) := by decide +kernel
theorem dX11_wipe_0 : decode cX11_wipe 0 = .ok (.aload_n 0, 1) := by decide +kernel
theorem dX11_wipe_1 : decode cX11_wipe 1 = .ok (.getfield 10, 3) := by decide +kernel
theorem dX11_wipe_4 : decode cX11_wipe 4 = .ok (.getfield 105, 3) := by decide +kernel
theorem dX11_wipe_7 : decode cX11_wipe 7 = .ok (.istore_n 1, 1) := by decide +kernel
theorem dX11_wipe_8 : decode cX11_wipe 8 = .ok (.aload_n 0, 1) := by decide +kernel
theorem dX11_wipe_9 : decode cX11_wipe 9 = .ok (.getfield 10, 3) := by decide +kernel
theorem dX11_wipe_12 : decode cX11_wipe 12 = .ok (.iconst 0, 1) := by decide +kernel
theorem dX11_wipe_13 : decode cX11_wipe 13 = .ok (.putfield 105, 3) := by decide +kernel
theorem dX11_wipe_16 : decode cX11_wipe 16 = .ok (.iload_n 1, 1) := by decide +kernel
theorem dX11_wipe_17 : decode cX11_wipe 17 = .ok (.ireturn, 1) := by decide +kernel
set_option maxRecDepth 20000 in
theorem ggX11_fault_X8_read : GoodIn wsX11_fault wsX8_read := goodIn_r _ [8, 9, 10, 11, 12, 13, 14, 15, 16, 17, 18, 19, 20, 21, 22, 23, 24, 25, 26, 27, 28, 29, 30, 31, 32, 33, 34, 35, 36, 37, 38, 39, 40, 7, 41, 42, 43, 44, 45, 46, 47, 48, 49, 50, 51, 52, 53, 54, 55, 56, 57, 58, 59, 60, 61, 62, 63, 64, 65, 66, 207, 208, 209, 210, 211, 212, 213, 214, 215] (by decide +kernel) (by decide +kernel)
set_option maxRecDepth 20000 in
theorem gX11_fault_X8_read : GoodIn wsX11_fault (wsV RX11 108 RX8 yX8_read wsX8_read) := goodIn_app (goodIn_of _ (by decide +kernel)) ggX11_fault_X8_read
set_option maxRecDepth 20000 in
theorem ggX11_fault_X5_read : GoodIn wsX11_fault wsX5_read := goodIn_r _ [71, 72, 73, 12, 13, 14, 15, 16, 17, 74, 75, 76, 77, 78, 79, 80, 81, 82, 83, 84, 85, 86, 87, 88, 89, 90, 91, 92, 93, 94, 95, 96, 97, 98, 70, 99, 100, 101, 28, 29, 30, 25, 31, 32, 33, 34, 35, 36, 37, 102, 49, 50, 51, 103, 53, 54, 55, 104, 19, 20, 105, 44, 45, 46, 47, 48, 52, 106, 107, 108, 109, 110, 111, 112, 113, 114, 115, 116, 117, 118, 119, 120, 121, 122, 123, 124, 125, 126, 127, 128, 129, 130, 131, 132, 133, 134, 135, 136, 137, 138, 139, 140, 141, 142, 143, 144, 145, 146, 147, 148, 149, 150, 151, 152, 153, 154, 155, 156, 157, 158, 159, 160, 161, 162, 163, 164, 22, 23, 24, 26, 165, 166, 167, 168, 169, 170, 171, 172, 173, 174, 175, 176, 177, 178, 179, 180, 181, 182, 183, 184, 185, 186, 187, 188, 189, 62, 63, 64, 216, 217, 211, 212, 213, 218, 219, 220, 221, 222, 223, 224, 225, 226, 227, 228, 229, 230, 231, 214, 215] (by decide +kernel) (by decide +kernel)
set_option maxRecDepth 20000 in
theorem gX11_fault_X5_read : GoodIn wsX11_fault (wsV RX11 112 RX5 yX5_read wsX5_read) := goodIn_app (goodIn_of _ (by decide +kernel)) ggX11_fault_X5_read
theorem dX11_fault_0 : decode cX11_fault 0 = .ok (.iload_n 1, 1) := by decide +kernel
theorem dX11_fault_1 : decode cX11_fault 1 = .ok (.ifCond .eq 13, 3) := by decide +kernel
theorem dX11_fault_4 : decode cX11_fault 4 = .ok (.aload_n 0, 1) := by decide +kernel
theorem dX11_fault_5 : decode cX11_fault 5 = .ok (.getfield 28, 3) := by decide +kernel
theorem dX11_fault_8 : decode cX11_fault 8 = .ok (.invokevirtual 108, 3) := by decide +kernel
theorem dX11_fault_11 : decode cX11_fault 11 = .ok (.goto 14, 3) := by decide +kernel
theorem dX11_fault_14 : decode cX11_fault 14 = .ok (.aload_n 0, 1) := by decide +kernel
theorem dX11_fault_15 : decode cX11_fault 15 = .ok (.getfield 21, 3) := by decide +kernel
theorem dX11_fault_18 : decode cX11_fault 18 = .ok (.aload_n 0, 1) := by decide +kernel
theorem dX11_fault_19 : decode cX11_fault 19 = .ok (.getfield 35, 3) := by decide +kernel
theorem dX11_fault_22 : decode cX11_fault 22 = .ok (.invokevirtual 112, 3) := by decide +kernel
theorem dX11_fault_25 : decode cX11_fault 25 = .ok (.ireturn, 1) := by decide +kernel
set_option maxRecDepth 20000 in
theorem ggX11_make_X5_read : GoodIn wsX11_make wsX5_read := goodIn_r _ [13, 14, 15, 16, 17, 18, 19, 20, 21, 22, 23, 24, 25, 26, 27, 28, 29, 30, 31, 32, 33, 34, 35, 36, 37, 38, 39, 40, 41, 42, 43, 44, 45, 46, 12, 47, 48, 49, 50, 51, 52, 53, 54, 55, 56, 57, 58, 59, 60, 61, 62, 63, 64, 65, 66, 67, 68, 69, 70, 71, 72, 73, 74, 75, 76, 77, 78, 79, 80, 81, 82, 83, 84, 85, 86, 87, 88, 89, 90, 91, 92, 93, 94, 95, 96, 97, 98, 99, 100, 101, 102, 103, 104, 105, 106, 107, 108, 109, 110, 111, 112, 113, 114, 115, 116, 117, 118, 119, 120, 121, 122, 123, 124, 125, 126, 127, 128, 129, 130, 131, 132, 133, 134, 135, 136, 137, 138, 139, 140, 141, 142, 143, 144, 145, 146, 147, 148, 149, 150, 151, 152, 153, 154, 155, 156, 157, 158, 159, 160, 161, 162, 163, 164, 165, 166, 167, 168, 169, 257, 258, 259, 260, 261, 243, 244, 245, 246, 247, 248, 249, 250, 251, 252, 253, 254, 255, 256, 262, 263] (by decide +kernel) (by decide +kernel)
set_option maxRecDepth 20000 in
theorem gX11_make_X5_read : GoodIn wsX11_make (wsV RX11 112 RX5 yX5_read wsX5_read) := goodIn_app (goodIn_of _ (by decide +kernel)) ggX11_make_X5_read
set_option maxRecDepth 20000 in
theorem ggX11_make_X4_copy : GoodIn wsX11_make wsX4_copy := goodIn_r _ [173, 27, 28, 29, 174, 175, 176, 177, 30, 31, 32, 33, 34, 35, 36, 37, 38, 39, 178, 179, 180, 25, 181, 182, 183, 40, 41, 42, 43, 184, 185, 186, 187, 188, 189, 190, 191, 192, 193, 194, 195, 196, 197, 198, 199, 200, 201, 202, 203, 204, 205, 206, 207, 208, 209, 210, 211, 212, 213, 214, 243, 244, 245, 246, 247, 248, 249, 250, 251, 252, 253, 254, 255, 256] (by decide +kernel) (by decide +kernel)
set_option maxRecDepth 20000 in
theorem gX11_make_X4_copy : GoodIn wsX11_make (wsV RX11 115 RX4 yX4_copy wsX4_copy) := goodIn_app (goodIn_of _ (by decide +kernel)) ggX11_make_X4_copy
set_option maxRecDepth 20000 in
theorem ggX11_make_X9_begin : GoodIn wsX11_make wsX9_begin := goodIn_r _ [219, 220, 221, 222, 223, 224, 225, 264, 265, 266, 267, 268, 269] (by decide +kernel) (by decide +kernel)
set_option maxRecDepth 20000 in
theorem gX11_make_X9_begin : GoodIn wsX11_make (wsV RX11 123 RX9 yX9_begin wsX9_begin) := goodIn_app (goodIn_of _ (by decide +kernel)) ggX11_make_X9_begin
theorem dX11_make_0 : decode cX11_make 0 = .ok (.aload_n 0, 1) := by decide +kernel
theorem dX11_make_1 : decode cX11_make 1 = .ok (.getfield 21, 3) := by decide +kernel
theorem dX11_make_4 : decode cX11_make 4 = .ok (.aload_n 0, 1) := by decide +kernel
theorem dX11_make_5 : decode cX11_make 5 = .ok (.getfield 35, 3) := by decide +kernel
theorem dX11_make_8 : decode cX11_make 8 = .ok (.invokevirtual 112, 3) := by decide +kernel
theorem dX11_make_11 : decode cX11_make 11 = .ok (.bipush (-9), 2) := by decide +kernel
theorem dX11_make_13 : decode cX11_make 13 = .ok (.if_icmp .eq 6, 3) := by decide +kernel
theorem dX11_make_16 : decode cX11_make 16 = .ok (.bipush (-3), 2) := by decide +kernel
theorem dX11_make_18 : decode cX11_make 18 = .ok (.ireturn, 1) := by decide +kernel
theorem dX11_make_19 : decode cX11_make 19 = .ok (.aload_n 0, 1) := by decide +kernel
theorem dX11_make_20 : decode cX11_make 20 = .ok (.getfield 39, 3) := by decide +kernel
theorem dX11_make_23 : decode cX11_make 23 = .ok (.aload_n 0, 1) := by decide +kernel
theorem dX11_make_24 : decode cX11_make 24 = .ok (.getfield 35, 3) := by decide +kernel
theorem dX11_make_27 : decode cX11_make 27 = .ok (.iconst 0, 1) := by decide +kernel
theorem dX11_make_28 : decode cX11_make 28 = .ok (.invokevirtual 115, 3) := by decide +kernel
theorem dX11_make_31 : decode cX11_make 31 = .ok (.aload_n 0, 1) := by decide +kernel
theorem dX11_make_32 : decode cX11_make 32 = .ok (.iconst 0, 1) := by decide +kernel
theorem dX11_make_33 : decode cX11_make 33 = .ok (.putfield 119, 3) := by decide +kernel
theorem dX11_make_36 : decode cX11_make 36 = .ok (.aload_n 0, 1) := by decide +kernel
theorem dX11_make_37 : decode cX11_make 37 = .ok (.bipush (-9), 2) := by decide +kernel
theorem dX11_make_39 : decode cX11_make 39 = .ok (.putfield 90, 3) := by decide +kernel
theorem dX11_make_42 : decode cX11_make 42 = .ok (.aload_n 0, 1) := by decide +kernel
theorem dX11_make_43 : decode cX11_make 43 = .ok (.getfield 69, 3) := by decide +kernel
theorem dX11_make_46 : decode cX11_make 46 = .ok (.invokevirtual 123, 3) := by decide +kernel
theorem dX11_make_49 : decode cX11_make 49 = .ok (.iconst 0, 1) := by decide +kernel
theorem dX11_make_50 : decode cX11_make 50 = .ok (.istore_n 1, 1) := by decide +kernel
theorem dX11_make_51 : decode cX11_make 51 = .ok (.iload_n 1, 1) := by decide +kernel
theorem dX11_make_52 : decode cX11_make 52 = .ok (.iconst 2, 1) := by decide +kernel
theorem dX11_make_53 : decode cX11_make 53 = .ok (.if_icmp .ge 16, 3) := by decide +kernel
theorem dX11_make_56 : decode cX11_make 56 = .ok (.aload_n 0, 1) := by decide +kernel
theorem dX11_make_57 : decode cX11_make 57 = .ok (.getfield 79, 3) := by decide +kernel
theorem dX11_make_60 : decode cX11_make 60 = .ok (.iload_n 1, 1) := by decide +kernel
theorem dX11_make_61 : decode cX11_make 61 = .ok (.iconst 0, 1) := by decide +kernel
theorem dX11_make_62 : decode cX11_make 62 = .ok (.bastore, 1) := by decide +kernel
theorem dX11_make_63 : decode cX11_make 63 = .ok (.iinc 1 1, 3) := by decide +kernel
theorem dX11_make_66 : decode cX11_make 66 = .ok (.goto (-15), 3) := by decide +kernel
theorem dX11_make_69 : decode cX11_make 69 = .ok (.aload_n 0, 1) := by decide +kernel
theorem dX11_make_70 : decode cX11_make 70 = .ok (.getfield 39, 3) := by decide +kernel
theorem dX11_make_73 : decode cX11_make 73 = .ok (.getfield 126, 3) := by decide +kernel
theorem dX11_make_76 : decode cX11_make 76 = .ok (.ireturn, 1) := by decide +kernel
set_option maxRecDepth 20000 in
theorem ggX11_rule_X11_isRule : GoodIn wsX11_rule wsX11_isRule := goodIn_r _ [7] (by decide +kernel) (by decide +kernel)
set_option maxRecDepth 20000 in
theorem gX11_rule_X11_isRule : GoodIn wsX11_rule (wsV RX11 129 RX11 yX11_isRule wsX11_isRule) := goodIn_app (goodIn_of _ (by decide +kernel)) ggX11_rule_X11_isRule
set_option maxRecDepth 20000 in
theorem ggX11_rule_X8_read : GoodIn wsX11_rule wsX8_read := goodIn_r _ [12, 13, 14, 15, 16, 17, 18, 19, 20, 21, 22, 23, 24, 25, 26, 27, 28, 29, 30, 31, 32, 33, 34, 35, 36, 37, 38, 39, 40, 41, 42, 43, 44, 11, 45, 46, 47, 48, 49, 50, 51, 52, 53, 54, 55, 56, 57, 58, 59, 60, 61, 62, 63, 64, 65, 66, 67, 68, 69, 70, 103, 104, 105, 106, 107, 108, 109, 110, 111] (by decide +kernel) (by decide +kernel)
set_option maxRecDepth 20000 in
theorem gX11_rule_X8_read : GoodIn wsX11_rule (wsV RX11 108 RX8 yX8_read wsX8_read) := goodIn_app (goodIn_of _ (by decide +kernel)) ggX11_rule_X8_read
set_option maxRecDepth 20000 in
theorem ggX11_rule_X8_levelIn : GoodIn wsX11_rule wsX8_levelIn := goodIn_r _ [74, 14, 46, 64, 103, 104, 105, 106] (by decide +kernel) (by decide +kernel)
set_option maxRecDepth 20000 in
theorem gX11_rule_X8_levelIn : GoodIn wsX11_rule (wsV RX11 132 RX8 yX8_levelIn wsX8_levelIn) := goodIn_app (goodIn_of _ (by decide +kernel)) ggX11_rule_X8_levelIn
set_option maxRecDepth 20000 in
theorem ggX11_rule_X8_exceptions : GoodIn wsX11_rule wsX8_exceptions := goodIn_r _ [78, 14, 79, 80, 81, 82, 83, 84, 85, 103, 104, 105, 106] (by decide +kernel) (by decide +kernel)
set_option maxRecDepth 20000 in
theorem gX11_rule_X8_exceptions : GoodIn wsX11_rule (wsV RX11 136 RX8 yX8_exceptions wsX8_exceptions) := goodIn_app (goodIn_of _ (by decide +kernel)) ggX11_rule_X8_exceptions
theorem dX11_rule_0 : decode cX11_rule 0 = .ok (.aload_n 0, 1) := by decide +kernel
theorem dX11_rule_1 : decode cX11_rule 1 = .ok (.iload_n 1, 1) := by decide +kernel
theorem dX11_rule_2 : decode cX11_rule 2 = .ok (.invokevirtual 129, 3) := by decide +kernel
theorem dX11_rule_5 : decode cX11_rule 5 = .ok (.ifCond .ne 5, 3) := by decide +kernel
theorem dX11_rule_8 : decode cX11_rule 8 = .ok (.iconst (-1), 1) := by decide +kernel
theorem dX11_rule_9 : decode cX11_rule 9 = .ok (.ireturn, 1) := by decide +kernel
theorem dX11_rule_10 : decode cX11_rule 10 = .ok (.aload_n 0, 1) := by decide +kernel
theorem dX11_rule_11 : decode cX11_rule 11 = .ok (.getfield 28, 3) := by decide +kernel
theorem dX11_rule_14 : decode cX11_rule 14 = .ok (.invokevirtual 108, 3) := by decide +kernel
theorem dX11_rule_17 : decode cX11_rule 17 = .ok (.bipush (-9), 2) := by decide +kernel
theorem dX11_rule_19 : decode cX11_rule 19 = .ok (.if_icmp .eq 6, 3) := by decide +kernel
theorem dX11_rule_22 : decode cX11_rule 22 = .ok (.bipush (-3), 2) := by decide +kernel
theorem dX11_rule_24 : decode cX11_rule 24 = .ok (.ireturn, 1) := by decide +kernel
theorem dX11_rule_25 : decode cX11_rule 25 = .ok (.iconst 0, 1) := by decide +kernel
theorem dX11_rule_26 : decode cX11_rule 26 = .ok (.istore_n 2, 1) := by decide +kernel
theorem dX11_rule_27 : decode cX11_rule 27 = .ok (.iload_n 2, 1) := by decide +kernel
theorem dX11_rule_28 : decode cX11_rule 28 = .ok (.iconst 5, 1) := by decide +kernel
theorem dX11_rule_29 : decode cX11_rule 29 = .ok (.if_icmp .ge 27, 3) := by decide +kernel
theorem dX11_rule_32 : decode cX11_rule 32 = .ok (.aload_n 0, 1) := by decide +kernel
theorem dX11_rule_33 : decode cX11_rule 33 = .ok (.getfield 45, 3) := by decide +kernel
theorem dX11_rule_36 : decode cX11_rule 36 = .ok (.iload_n 1, 1) := by decide +kernel
theorem dX11_rule_37 : decode cX11_rule 37 = .ok (.iconst 5, 1) := by decide +kernel
theorem dX11_rule_38 : decode cX11_rule 38 = .ok (.imul, 1) := by decide +kernel
theorem dX11_rule_39 : decode cX11_rule 39 = .ok (.iload_n 2, 1) := by decide +kernel
theorem dX11_rule_40 : decode cX11_rule 40 = .ok (.iadd, 1) := by decide +kernel
theorem dX11_rule_41 : decode cX11_rule 41 = .ok (.aload_n 0, 1) := by decide +kernel
theorem dX11_rule_42 : decode cX11_rule 42 = .ok (.getfield 28, 3) := by decide +kernel
theorem dX11_rule_45 : decode cX11_rule 45 = .ok (.iload_n 2, 1) := by decide +kernel
theorem dX11_rule_46 : decode cX11_rule 46 = .ok (.invokevirtual 132, 3) := by decide +kernel
theorem dX11_rule_49 : decode cX11_rule 49 = .ok (.iastore, 1) := by decide +kernel
theorem dX11_rule_50 : decode cX11_rule 50 = .ok (.iinc 2 1, 3) := by decide +kernel
theorem dX11_rule_53 : decode cX11_rule 53 = .ok (.goto (-26), 3) := by decide +kernel
theorem dX11_rule_56 : decode cX11_rule 56 = .ok (.aload_n 0, 1) := by decide +kernel
theorem dX11_rule_57 : decode cX11_rule 57 = .ok (.getfield 28, 3) := by decide +kernel
theorem dX11_rule_60 : decode cX11_rule 60 = .ok (.invokevirtual 136, 3) := by decide +kernel
theorem dX11_rule_63 : decode cX11_rule 63 = .ok (.ireturn, 1) := by decide +kernel
set_option maxRecDepth 20000 in
theorem ggX11_level_X11_isRule : GoodIn wsX11_level wsX11_isRule := goodIn_r _ [5] (by decide +kernel) (by decide +kernel)
set_option maxRecDepth 20000 in
theorem gX11_level_X11_isRule : GoodIn wsX11_level (wsV RX11 129 RX11 yX11_isRule wsX11_isRule) := goodIn_app (goodIn_of _ (by decide +kernel)) ggX11_level_X11_isRule
set_option maxRecDepth 20000 in
theorem ggX11_level_X11_levelBy : GoodIn wsX11_level wsX11_levelBy := goodIn_r _ [9, 10, 11, 12, 13, 14, 15, 16, 17, 18, 19, 20, 21, 22, 23, 24, 25, 26, 27] (by decide +kernel) (by decide +kernel)
set_option maxRecDepth 20000 in
theorem gX11_level_X11_levelBy : GoodIn wsX11_level (wsV RX11 139 RX11 yX11_levelBy wsX11_levelBy) := goodIn_app (goodIn_of _ (by decide +kernel)) ggX11_level_X11_levelBy
theorem dX11_level_0 : decode cX11_level 0 = .ok (.aload_n 0, 1) := by decide +kernel
theorem dX11_level_1 : decode cX11_level 1 = .ok (.iload_n 1, 1) := by decide +kernel
theorem dX11_level_2 : decode cX11_level 2 = .ok (.invokevirtual 129, 3) := by decide +kernel
theorem dX11_level_5 : decode cX11_level 5 = .ok (.ifCond .eq 12, 3) := by decide +kernel
theorem dX11_level_8 : decode cX11_level 8 = .ok (.iload_n 2, 1) := by decide +kernel
theorem dX11_level_9 : decode cX11_level 9 = .ok (.ifCond .lt 8, 3) := by decide +kernel
theorem dX11_level_12 : decode cX11_level 12 = .ok (.iload_n 2, 1) := by decide +kernel
theorem dX11_level_13 : decode cX11_level 13 = .ok (.iconst 5, 1) := by decide +kernel
theorem dX11_level_14 : decode cX11_level 14 = .ok (.if_icmp .lt 5, 3) := by decide +kernel
theorem dX11_level_17 : decode cX11_level 17 = .ok (.iconst (-1), 1) := by decide +kernel
theorem dX11_level_18 : decode cX11_level 18 = .ok (.ireturn, 1) := by decide +kernel
theorem dX11_level_19 : decode cX11_level 19 = .ok (.aload_n 0, 1) := by decide +kernel
theorem dX11_level_20 : decode cX11_level 20 = .ok (.iload_n 1, 1) := by decide +kernel
theorem dX11_level_21 : decode cX11_level 21 = .ok (.iload_n 2, 1) := by decide +kernel
theorem dX11_level_22 : decode cX11_level 22 = .ok (.invokevirtual 139, 3) := by decide +kernel
theorem dX11_level_25 : decode cX11_level 25 = .ok (.ireturn, 1) := by decide +kernel
set_option maxRecDepth 20000 in
theorem ggX11_week_X11_isWeek : GoodIn wsX11_week wsX11_isWeek := goodIn_r _ [8, 1, 9, 10, 11, 12, 13, 14, 15, 16, 17, 18, 19, 20, 21, 22, 23, 24, 25, 26, 27, 28, 29, 30, 31, 32, 33, 34, 35, 36, 37, 38, 39, 40] (by decide +kernel) (by decide +kernel)
set_option maxRecDepth 20000 in
theorem gX11_week_X11_isWeek : GoodIn wsX11_week (wsV RX11 143 RX11 yX11_isWeek wsX11_isWeek) := goodIn_app (goodIn_of _ (by decide +kernel)) ggX11_week_X11_isWeek
theorem dX11_week_0 : decode cX11_week 0 = .ok (.aload_n 0, 1) := by decide +kernel
theorem dX11_week_1 : decode cX11_week 1 = .ok (.iload_n 1, 1) := by decide +kernel
theorem dX11_week_2 : decode cX11_week 2 = .ok (.invokevirtual 143, 3) := by decide +kernel
theorem dX11_week_5 : decode cX11_week 5 = .ok (.ifCond .ne 5, 3) := by decide +kernel
theorem dX11_week_8 : decode cX11_week 8 = .ok (.iconst (-1), 1) := by decide +kernel
theorem dX11_week_9 : decode cX11_week 9 = .ok (.ireturn, 1) := by decide +kernel
theorem dX11_week_10 : decode cX11_week 10 = .ok (.iload_n 2, 1) := by decide +kernel
theorem dX11_week_11 : decode cX11_week 11 = .ok (.lookupswitch 45 #[(0, 25), (1, 35)], 25) := by decide +kernel
theorem dX11_week_36 : decode cX11_week 36 = .ok (.aload_n 0, 1) := by decide +kernel
theorem dX11_week_37 : decode cX11_week 37 = .ok (.getfield 39, 3) := by decide +kernel
theorem dX11_week_40 : decode cX11_week 40 = .ok (.getfield 146, 3) := by decide +kernel
theorem dX11_week_43 : decode cX11_week 43 = .ok (.iload_n 1, 1) := by decide +kernel
theorem dX11_week_44 : decode cX11_week 44 = .ok (.iaload, 1) := by decide +kernel
theorem dX11_week_45 : decode cX11_week 45 = .ok (.ireturn, 1) := by decide +kernel
theorem dX11_week_46 : decode cX11_week 46 = .ok (.aload_n 0, 1) := by decide +kernel
theorem dX11_week_47 : decode cX11_week 47 = .ok (.getfield 39, 3) := by decide +kernel
theorem dX11_week_50 : decode cX11_week 50 = .ok (.getfield 149, 3) := by decide +kernel
theorem dX11_week_53 : decode cX11_week 53 = .ok (.iload_n 1, 1) := by decide +kernel
theorem dX11_week_54 : decode cX11_week 54 = .ok (.iaload, 1) := by decide +kernel
theorem dX11_week_55 : decode cX11_week 55 = .ok (.ireturn, 1) := by decide +kernel
theorem dX11_week_56 : decode cX11_week 56 = .ok (.bipush (-2), 2) := by decide +kernel
theorem dX11_week_58 : decode cX11_week 58 = .ok (.ireturn, 1) := by decide +kernel
set_option maxRecDepth 20000 in
theorem ggX11_aged_X4_fifths : GoodIn wsX11_aged wsX4_fifths := goodIn_r _ [7, 8, 9, 10, 11, 12, 13, 31, 32, 33, 34, 35, 36, 37, 38, 39, 40, 41, 42, 43, 44] (by decide +kernel) (by decide +kernel)
set_option maxRecDepth 20000 in
theorem gX11_aged_X4_fifths : GoodIn wsX11_aged (wsV RX11 152 RX4 yX4_fifths wsX4_fifths) := goodIn_app (goodIn_of _ (by decide +kernel)) ggX11_aged_X4_fifths
theorem dX11_aged_0 : decode cX11_aged 0 = .ok (.iload_n 1, 1) := by decide +kernel
theorem dX11_aged_1 : decode cX11_aged 1 = .ok (.ifCond .lt 8, 3) := by decide +kernel
theorem dX11_aged_4 : decode cX11_aged 4 = .ok (.iload_n 1, 1) := by decide +kernel
theorem dX11_aged_5 : decode cX11_aged 5 = .ok (.iconst 3, 1) := by decide +kernel
theorem dX11_aged_6 : decode cX11_aged 6 = .ok (.if_icmp .lt 6, 3) := by decide +kernel
theorem dX11_aged_9 : decode cX11_aged 9 = .ok (.bipush (-2), 2) := by decide +kernel
theorem dX11_aged_11 : decode cX11_aged 11 = .ok (.ireturn, 1) := by decide +kernel
theorem dX11_aged_12 : decode cX11_aged 12 = .ok (.iload_n 2, 1) := by decide +kernel
theorem dX11_aged_13 : decode cX11_aged 13 = .ok (.lookupswitch 46 #[(0, 27), (1, 36)], 27) := by decide +kernel
theorem dX11_aged_40 : decode cX11_aged 40 = .ok (.aload_n 0, 1) := by decide +kernel
theorem dX11_aged_41 : decode cX11_aged 41 = .ok (.getfield 39, 3) := by decide +kernel
theorem dX11_aged_44 : decode cX11_aged 44 = .ok (.iload_n 1, 1) := by decide +kernel
theorem dX11_aged_45 : decode cX11_aged 45 = .ok (.invokevirtual 152, 3) := by decide +kernel
theorem dX11_aged_48 : decode cX11_aged 48 = .ok (.ireturn, 1) := by decide +kernel
theorem dX11_aged_49 : decode cX11_aged 49 = .ok (.aload_n 0, 1) := by decide +kernel
theorem dX11_aged_50 : decode cX11_aged 50 = .ok (.getfield 39, 3) := by decide +kernel
theorem dX11_aged_53 : decode cX11_aged 53 = .ok (.getfield 155, 3) := by decide +kernel
theorem dX11_aged_56 : decode cX11_aged 56 = .ok (.iload_n 1, 1) := by decide +kernel
theorem dX11_aged_57 : decode cX11_aged 57 = .ok (.iaload, 1) := by decide +kernel
theorem dX11_aged_58 : decode cX11_aged 58 = .ok (.ireturn, 1) := by decide +kernel
theorem dX11_aged_59 : decode cX11_aged 59 = .ok (.bipush (-2), 2) := by decide +kernel
theorem dX11_aged_61 : decode cX11_aged 61 = .ok (.ireturn, 1) := by decide +kernel
theorem dX11_about_0 : decode cX11_about 0 = .ok (.iload_n 1, 1) := by decide +kernel
theorem dX11_about_1 : decode cX11_about 1 = .ok (.tableswitch 111 0 7 #[47, 55, 63, 71, 79, 87, 95, 103], 47) := by decide +kernel
theorem dX11_about_48 : decode cX11_about 48 = .ok (.aload_n 0, 1) := by decide +kernel
theorem dX11_about_49 : decode cX11_about 49 = .ok (.getfield 39, 3) := by decide +kernel
theorem dX11_about_52 : decode cX11_about 52 = .ok (.getfield 126, 3) := by decide +kernel
theorem dX11_about_55 : decode cX11_about 55 = .ok (.ireturn, 1) := by decide +kernel
theorem dX11_about_56 : decode cX11_about 56 = .ok (.aload_n 0, 1) := by decide +kernel
theorem dX11_about_57 : decode cX11_about 57 = .ok (.getfield 39, 3) := by decide +kernel
theorem dX11_about_60 : decode cX11_about 60 = .ok (.getfield 158, 3) := by decide +kernel
theorem dX11_about_63 : decode cX11_about 63 = .ok (.ireturn, 1) := by decide +kernel
theorem dX11_about_64 : decode cX11_about 64 = .ok (.aload_n 0, 1) := by decide +kernel
theorem dX11_about_65 : decode cX11_about 65 = .ok (.getfield 39, 3) := by decide +kernel
theorem dX11_about_68 : decode cX11_about 68 = .ok (.getfield 161, 3) := by decide +kernel
theorem dX11_about_71 : decode cX11_about 71 = .ok (.ireturn, 1) := by decide +kernel
theorem dX11_about_72 : decode cX11_about 72 = .ok (.aload_n 0, 1) := by decide +kernel
theorem dX11_about_73 : decode cX11_about 73 = .ok (.getfield 39, 3) := by decide +kernel
theorem dX11_about_76 : decode cX11_about 76 = .ok (.getfield 164, 3) := by decide +kernel
theorem dX11_about_79 : decode cX11_about 79 = .ok (.ireturn, 1) := by decide +kernel
theorem dX11_about_80 : decode cX11_about 80 = .ok (.aload_n 0, 1) := by decide +kernel
theorem dX11_about_81 : decode cX11_about 81 = .ok (.getfield 39, 3) := by decide +kernel
theorem dX11_about_84 : decode cX11_about 84 = .ok (.getfield 167, 3) := by decide +kernel
theorem dX11_about_87 : decode cX11_about 87 = .ok (.ireturn, 1) := by decide +kernel
theorem dX11_about_88 : decode cX11_about 88 = .ok (.aload_n 0, 1) := by decide +kernel
theorem dX11_about_89 : decode cX11_about 89 = .ok (.getfield 39, 3) := by decide +kernel
theorem dX11_about_92 : decode cX11_about 92 = .ok (.getfield 170, 3) := by decide +kernel
theorem dX11_about_95 : decode cX11_about 95 = .ok (.ireturn, 1) := by decide +kernel
theorem dX11_about_96 : decode cX11_about 96 = .ok (.aload_n 0, 1) := by decide +kernel
theorem dX11_about_97 : decode cX11_about 97 = .ok (.getfield 39, 3) := by decide +kernel
theorem dX11_about_100 : decode cX11_about 100 = .ok (.getfield 173, 3) := by decide +kernel
theorem dX11_about_103 : decode cX11_about 103 = .ok (.ireturn, 1) := by decide +kernel
theorem dX11_about_104 : decode cX11_about 104 = .ok (.aload_n 0, 1) := by decide +kernel
theorem dX11_about_105 : decode cX11_about 105 = .ok (.getfield 39, 3) := by decide +kernel
theorem dX11_about_108 : decode cX11_about 108 = .ok (.getfield 176, 3) := by decide +kernel
theorem dX11_about_111 : decode cX11_about 111 = .ok (.ireturn, 1) := by decide +kernel
theorem dX11_about_112 : decode cX11_about 112 = .ok (.bipush (-2), 2) := by decide +kernel
theorem dX11_about_114 : decode cX11_about 114 = .ok (.ireturn, 1) := by decide +kernel
set_option maxRecDepth 20000 in
theorem ggX11_may_X11_refuseAct : GoodIn wsX11_may wsX11_refuseAct := goodIn_r _ [5, 6, 7, 8, 9, 4, 10, 11, 12, 13, 14, 15, 16, 17, 18, 19, 20, 21, 22, 23, 24, 25, 26, 27, 28, 29, 30, 31, 32, 33, 34, 35, 36, 37, 38, 39, 40, 41, 42, 43, 44, 45, 46, 47, 48, 49, 50, 51, 52, 53, 54, 55, 56, 57, 58, 59, 60, 61, 62, 63, 64, 65, 66, 67, 68, 69, 70, 71, 72, 73, 74, 75, 76, 77, 78, 79, 80, 81, 82, 83, 84, 85, 86, 87, 88, 89, 90, 91, 92, 93, 94, 95, 96, 97, 98, 99, 100, 101, 102, 103, 104, 105, 106, 107, 108, 109, 110, 111, 112, 113, 114, 115] (by decide +kernel) (by decide +kernel)
set_option maxRecDepth 20000 in
theorem gX11_may_X11_refuseAct : GoodIn wsX11_may (wsV RX11 179 RX11 yX11_refuseAct wsX11_refuseAct) := goodIn_app (goodIn_of _ (by decide +kernel)) ggX11_may_X11_refuseAct
theorem dX11_may_0 : decode cX11_may 0 = .ok (.aload_n 0, 1) := by decide +kernel
theorem dX11_may_1 : decode cX11_may 1 = .ok (.iload_n 1, 1) := by decide +kernel
theorem dX11_may_2 : decode cX11_may 2 = .ok (.iload_n 2, 1) := by decide +kernel
theorem dX11_may_3 : decode cX11_may 3 = .ok (.iconst 0, 1) := by decide +kernel
theorem dX11_may_4 : decode cX11_may 4 = .ok (.iload_n 3, 1) := by decide +kernel
theorem dX11_may_5 : decode cX11_may 5 = .ok (.invokevirtual 179, 3) := by decide +kernel
theorem dX11_may_8 : decode cX11_may 8 = .ok (.istore 4, 2) := by decide +kernel
theorem dX11_may_10 : decode cX11_may 10 = .ok (.iload 4, 2) := by decide +kernel
theorem dX11_may_12 : decode cX11_may 12 = .ok (.iconst (-1), 1) := by decide +kernel
theorem dX11_may_13 : decode cX11_may 13 = .ok (.if_icmp .eq 10, 3) := by decide +kernel
theorem dX11_may_16 : decode cX11_may 16 = .ok (.iload 4, 2) := by decide +kernel
theorem dX11_may_18 : decode cX11_may 18 = .ok (.bipush (-2), 2) := by decide +kernel
theorem dX11_may_20 : decode cX11_may 20 = .ok (.if_icmp .ne 6, 3) := by decide +kernel
theorem dX11_may_23 : decode cX11_may 23 = .ok (.iload 4, 2) := by decide +kernel
theorem dX11_may_25 : decode cX11_may 25 = .ok (.ireturn, 1) := by decide +kernel
theorem dX11_may_26 : decode cX11_may 26 = .ok (.iload 4, 2) := by decide +kernel
theorem dX11_may_28 : decode cX11_may 28 = .ok (.bipush (-3), 2) := by decide +kernel
theorem dX11_may_30 : decode cX11_may 30 = .ok (.if_icmp .ne 7, 3) := by decide +kernel
theorem dX11_may_33 : decode cX11_may 33 = .ok (.iconst 0, 1) := by decide +kernel
theorem dX11_may_34 : decode cX11_may 34 = .ok (.goto 4, 3) := by decide +kernel
theorem dX11_may_37 : decode cX11_may 37 = .ok (.iconst 1, 1) := by decide +kernel
theorem dX11_may_38 : decode cX11_may 38 = .ok (.ireturn, 1) := by decide +kernel
set_option maxRecDepth 20000 in
theorem ggX11_then_X11_refuseAct : GoodIn wsX11_then wsX11_refuseAct := goodIn_r _ [5, 6, 7, 8, 9, 4, 10, 11, 12, 13, 14, 15, 16, 17, 18, 19, 20, 21, 22, 23, 24, 25, 26, 27, 28, 29, 30, 31, 32, 33, 34, 35, 36, 37, 38, 39, 40, 41, 42, 43, 44, 45, 46, 47, 48, 49, 50, 51, 52, 53, 54, 55, 56, 57, 58, 59, 60, 61, 62, 63, 64, 65, 66, 67, 68, 69, 70, 71, 72, 73, 74, 75, 76, 77, 78, 79, 80, 81, 82, 83, 84, 92, 93, 94, 95, 96, 97, 98, 99, 100, 101, 102, 103, 104, 105, 106, 107, 108, 109, 110, 111, 112, 113, 114, 115, 116, 117, 118, 119, 120, 121, 122] (by decide +kernel) (by decide +kernel)
set_option maxRecDepth 20000 in
theorem gX11_then_X11_refuseAct : GoodIn wsX11_then (wsV RX11 179 RX11 yX11_refuseAct wsX11_refuseAct) := goodIn_app (goodIn_of _ (by decide +kernel)) ggX11_then_X11_refuseAct
set_option maxRecDepth 20000 in
theorem ggX11_then_X0_done : GoodIn wsX11_then wsX0_done := goodIn_r _ [87, 88, 39, 40, 41, 89, 49, 23, 50, 51, 52, 53, 54, 90, 56, 57, 91, 66, 67] (by decide +kernel) (by decide +kernel)
set_option maxRecDepth 20000 in
theorem gX11_then_X0_done : GoodIn wsX11_then (va_wsS RX11 183 yX0_done wsX0_done) := goodIn_app (goodIn_of _ (by decide +kernel)) ggX11_then_X0_done
theorem dX11_then_0 : decode cX11_then 0 = .ok (.aload_n 0, 1) := by decide +kernel
theorem dX11_then_1 : decode cX11_then 1 = .ok (.iload_n 1, 1) := by decide +kernel
theorem dX11_then_2 : decode cX11_then 2 = .ok (.iload_n 2, 1) := by decide +kernel
theorem dX11_then_3 : decode cX11_then 3 = .ok (.iconst 0, 1) := by decide +kernel
theorem dX11_then_4 : decode cX11_then 4 = .ok (.iload_n 3, 1) := by decide +kernel
theorem dX11_then_5 : decode cX11_then 5 = .ok (.invokevirtual 179, 3) := by decide +kernel
theorem dX11_then_8 : decode cX11_then 8 = .ok (.istore 4, 2) := by decide +kernel
theorem dX11_then_10 : decode cX11_then 10 = .ok (.iload 4, 2) := by decide +kernel
theorem dX11_then_12 : decode cX11_then 12 = .ok (.ifCond .eq 8, 3) := by decide +kernel
theorem dX11_then_15 : decode cX11_then 15 = .ok (.iload 4, 2) := by decide +kernel
theorem dX11_then_17 : decode cX11_then 17 = .ok (.goto 8, 3) := by decide +kernel
theorem dX11_then_20 : decode cX11_then 20 = .ok (.iload_n 2, 1) := by decide +kernel
theorem dX11_then_21 : decode cX11_then 21 = .ok (.iload_n 3, 1) := by decide +kernel
theorem dX11_then_22 : decode cX11_then 22 = .ok (.invokestatic 183, 3) := by decide +kernel
theorem dX11_then_25 : decode cX11_then 25 = .ok (.ireturn, 1) := by decide +kernel
set_option maxRecDepth 20000 in
theorem ggX11_costs_X11_refuseAct : GoodIn wsX11_costs wsX11_refuseAct := goodIn_r _ [6, 1, 7, 8, 9, 5, 10, 11, 12, 13, 14, 15, 16, 17, 18, 19, 20, 21, 22, 23, 24, 25, 26, 27, 28, 29, 30, 31, 32, 33, 34, 35, 36, 37, 38, 39, 40, 41, 42, 43, 44, 45, 46, 47, 48, 49, 50, 51, 52, 53, 54, 55, 56, 57, 58, 59, 60, 61, 62, 63, 64, 65, 66, 67, 68, 69, 70, 71, 72, 73, 74, 75, 76, 77, 78, 79, 80, 81, 82, 83, 84, 107, 108, 109, 110, 111, 112, 113, 114, 115, 116, 117, 118, 119, 120, 121, 122, 123, 124, 125, 126, 127, 128, 129, 130, 131, 132, 133, 134, 135, 136, 137] (by decide +kernel) (by decide +kernel)
set_option maxRecDepth 20000 in
theorem gX11_costs_X11_refuseAct : GoodIn wsX11_costs (wsV RX11 179 RX11 yX11_refuseAct wsX11_refuseAct) := goodIn_app (goodIn_of _ (by decide +kernel)) ggX11_costs_X11_refuseAct
set_option maxRecDepth 20000 in
theorem ggX11_costs_X0_done : GoodIn wsX11_costs wsX0_done := goodIn_r _ [87, 88, 39, 40, 41, 89, 49, 23, 50, 51, 52, 53, 54, 90, 56, 57, 91, 66, 67] (by decide +kernel) (by decide +kernel)
set_option maxRecDepth 20000 in
theorem gX11_costs_X0_done : GoodIn wsX11_costs (va_wsS RX11 183 yX0_done wsX0_done) := goodIn_app (goodIn_of _ (by decide +kernel)) ggX11_costs_X0_done
set_option maxRecDepth 20000 in
theorem ggX11_costs_X4_weekCost : GoodIn wsX11_costs wsX4_weekCost := goodIn_r _ [95, 96, 97, 98, 99, 53, 100, 46, 72, 33, 65, 66, 40, 67, 47, 26, 23, 27, 101, 102, 103, 31, 104, 105, 106, 38, 39, 41, 124, 125, 126, 127, 128, 129, 130, 131, 132, 133, 134, 135, 136, 137] (by decide +kernel) (by decide +kernel)
set_option maxRecDepth 20000 in
theorem gX11_costs_X4_weekCost : GoodIn wsX11_costs (wsV RX11 188 RX4 yX4_weekCost wsX4_weekCost) := goodIn_app (goodIn_of _ (by decide +kernel)) ggX11_costs_X4_weekCost
theorem dX11_costs_0 : decode cX11_costs 0 = .ok (.aload_n 0, 1) := by decide +kernel
theorem dX11_costs_1 : decode cX11_costs 1 = .ok (.iload_n 1, 1) := by decide +kernel
theorem dX11_costs_2 : decode cX11_costs 2 = .ok (.iload_n 2, 1) := by decide +kernel
theorem dX11_costs_3 : decode cX11_costs 3 = .ok (.iload_n 3, 1) := by decide +kernel
theorem dX11_costs_4 : decode cX11_costs 4 = .ok (.iload 4, 2) := by decide +kernel
theorem dX11_costs_6 : decode cX11_costs 6 = .ok (.invokevirtual 179, 3) := by decide +kernel
theorem dX11_costs_9 : decode cX11_costs 9 = .ok (.istore 5, 2) := by decide +kernel
theorem dX11_costs_11 : decode cX11_costs 11 = .ok (.iload 5, 2) := by decide +kernel
theorem dX11_costs_13 : decode cX11_costs 13 = .ok (.ifCond .eq 8, 3) := by decide +kernel
theorem dX11_costs_16 : decode cX11_costs 16 = .ok (.iload 5, 2) := by decide +kernel
theorem dX11_costs_18 : decode cX11_costs 18 = .ok (.goto 20, 3) := by decide +kernel
theorem dX11_costs_21 : decode cX11_costs 21 = .ok (.aload_n 0, 1) := by decide +kernel
theorem dX11_costs_22 : decode cX11_costs 22 = .ok (.getfield 39, 3) := by decide +kernel
theorem dX11_costs_25 : decode cX11_costs 25 = .ok (.iload_n 1, 1) := by decide +kernel
theorem dX11_costs_26 : decode cX11_costs 26 = .ok (.iload_n 2, 1) := by decide +kernel
theorem dX11_costs_27 : decode cX11_costs 27 = .ok (.iload 4, 2) := by decide +kernel
theorem dX11_costs_29 : decode cX11_costs 29 = .ok (.invokestatic 183, 3) := by decide +kernel
theorem dX11_costs_32 : decode cX11_costs 32 = .ok (.iload_n 3, 1) := by decide +kernel
theorem dX11_costs_33 : decode cX11_costs 33 = .ok (.iload 4, 2) := by decide +kernel
theorem dX11_costs_35 : decode cX11_costs 35 = .ok (.invokevirtual 188, 3) := by decide +kernel
theorem dX11_costs_38 : decode cX11_costs 38 = .ok (.ireturn, 1) := by decide +kernel
set_option maxRecDepth 20000 in
theorem ggX11_work_X11_refuseAct : GoodIn wsX11_work wsX11_refuseAct := goodIn_r _ [10, 1, 11, 12, 13, 9, 14, 15, 16, 17, 18, 19, 20, 21, 22, 23, 24, 25, 26, 27, 28, 29, 30, 31, 32, 33, 34, 35, 36, 37, 38, 39, 40, 41, 42, 43, 44, 45, 46, 47, 48, 49, 50, 51, 52, 53, 54, 55, 56, 4, 57, 58, 59, 60, 61, 62, 63, 64, 65, 66, 67, 68, 69, 70, 71, 72, 73, 74, 75, 76, 77, 78, 79, 80, 81, 82, 83, 84, 85, 86, 87, 102, 103, 104, 105, 106, 107, 108, 109, 110, 111, 112, 113, 114, 115, 116, 117, 118, 119, 120, 121, 122, 123, 124, 125, 126, 127, 128, 129, 130, 131, 132] (by decide +kernel) (by decide +kernel)
set_option maxRecDepth 20000 in
theorem gX11_work_X11_refuseAct : GoodIn wsX11_work (wsV RX11 179 RX11 yX11_refuseAct wsX11_refuseAct) := goodIn_app (goodIn_of _ (by decide +kernel)) ggX11_work_X11_refuseAct
set_option maxRecDepth 20000 in
theorem ggX11_work_X0_done : GoodIn wsX11_work wsX0_done := goodIn_r _ [90, 91, 43, 44, 45, 92, 53, 27, 54, 55, 56, 4, 57, 93, 59, 60, 94, 69, 70] (by decide +kernel) (by decide +kernel)
set_option maxRecDepth 20000 in
theorem gX11_work_X0_done : GoodIn wsX11_work (va_wsS RX11 183 yX0_done wsX0_done) := goodIn_app (goodIn_of _ (by decide +kernel)) ggX11_work_X0_done
set_option maxRecDepth 20000 in
theorem ggX11_work_X0_taught : GoodIn wsX11_work wsX0_taught := goodIn_r _ [70] (by decide +kernel) (by decide +kernel)
set_option maxRecDepth 20000 in
theorem gX11_work_X0_taught : GoodIn wsX11_work (va_wsS RX11 191 yX0_taught wsX0_taught) := goodIn_app (goodIn_of _ (by decide +kernel)) ggX11_work_X0_taught
set_option maxRecDepth 20000 in
theorem ggX11_work_X4_lack : GoodIn wsX11_work wsX4_lack := goodIn_r _ [99, 100, 101, 119, 120, 121, 122, 123, 124, 125, 126, 127, 128, 129, 130, 131, 132] (by decide +kernel) (by decide +kernel)
set_option maxRecDepth 20000 in
theorem gX11_work_X4_lack : GoodIn wsX11_work (wsV RX11 194 RX4 yX4_lack wsX4_lack) := goodIn_app (goodIn_of _ (by decide +kernel)) ggX11_work_X4_lack
theorem dX11_work_0 : decode cX11_work 0 = .ok (.aload_n 0, 1) := by decide +kernel
theorem dX11_work_1 : decode cX11_work 1 = .ok (.iload_n 1, 1) := by decide +kernel
theorem dX11_work_2 : decode cX11_work 2 = .ok (.iload_n 2, 1) := by decide +kernel
theorem dX11_work_3 : decode cX11_work 3 = .ok (.iload_n 3, 1) := by decide +kernel
theorem dX11_work_4 : decode cX11_work 4 = .ok (.iload 4, 2) := by decide +kernel
theorem dX11_work_6 : decode cX11_work 6 = .ok (.invokevirtual 179, 3) := by decide +kernel
theorem dX11_work_9 : decode cX11_work 9 = .ok (.istore 6, 2) := by decide +kernel
theorem dX11_work_11 : decode cX11_work 11 = .ok (.iload 6, 2) := by decide +kernel
theorem dX11_work_13 : decode cX11_work 13 = .ok (.ifCond .eq 6, 3) := by decide +kernel
theorem dX11_work_16 : decode cX11_work 16 = .ok (.iload 6, 2) := by decide +kernel
theorem dX11_work_18 : decode cX11_work 18 = .ok (.ireturn, 1) := by decide +kernel
theorem dX11_work_19 : decode cX11_work 19 = .ok (.aload_n 0, 1) := by decide +kernel
theorem dX11_work_20 : decode cX11_work 20 = .ok (.getfield 39, 3) := by decide +kernel
theorem dX11_work_23 : decode cX11_work 23 = .ok (.iload_n 1, 1) := by decide +kernel
theorem dX11_work_24 : decode cX11_work 24 = .ok (.iload_n 2, 1) := by decide +kernel
theorem dX11_work_25 : decode cX11_work 25 = .ok (.iload 4, 2) := by decide +kernel
theorem dX11_work_27 : decode cX11_work 27 = .ok (.invokestatic 183, 3) := by decide +kernel
theorem dX11_work_30 : decode cX11_work 30 = .ok (.iload_n 3, 1) := by decide +kernel
theorem dX11_work_31 : decode cX11_work 31 = .ok (.iload 4, 2) := by decide +kernel
theorem dX11_work_33 : decode cX11_work 33 = .ok (.invokestatic 191, 3) := by decide +kernel
theorem dX11_work_36 : decode cX11_work 36 = .ok (.invokevirtual 194, 3) := by decide +kernel
theorem dX11_work_39 : decode cX11_work 39 = .ok (.istore 7, 2) := by decide +kernel
theorem dX11_work_41 : decode cX11_work 41 = .ok (.iconst 0, 1) := by decide +kernel
theorem dX11_work_42 : decode cX11_work 42 = .ok (.iload 5, 2) := by decide +kernel
theorem dX11_work_44 : decode cX11_work 44 = .ok (.ifCond .eq 9, 3) := by decide +kernel
theorem dX11_work_47 : decode cX11_work 47 = .ok (.iload 7, 2) := by decide +kernel
theorem dX11_work_49 : decode cX11_work 49 = .ok (.ineg, 1) := by decide +kernel
theorem dX11_work_50 : decode cX11_work 50 = .ok (.goto 5, 3) := by decide +kernel
theorem dX11_work_53 : decode cX11_work 53 = .ok (.iload 7, 2) := by decide +kernel
theorem dX11_work_55 : decode cX11_work 55 = .ok (.invokestatic 197, 3) := by decide +kernel
theorem dX11_work_58 : decode cX11_work 58 = .ok (.ireturn, 1) := by decide +kernel
set_option maxRecDepth 20000 in
theorem ggX11_sunday_X11_isHands : GoodIn wsX11_sunday wsX11_isHands := goodIn_r _ [8, 2, 9, 10, 11, 12, 13, 14, 15, 16, 36, 37, 38, 39, 40, 41, 42, 43, 44, 45, 46, 47, 48, 49, 50, 51, 52, 53, 54, 55, 56, 57, 58, 59, 60, 61, 62, 63, 64, 65, 66] (by decide +kernel) (by decide +kernel)
set_option maxRecDepth 20000 in
theorem gX11_sunday_X11_isHands : GoodIn wsX11_sunday (wsV RX11 202 RX11 yX11_isHands wsX11_isHands) := goodIn_app (goodIn_of _ (by decide +kernel)) ggX11_sunday_X11_isHands
set_option maxRecDepth 20000 in
theorem ggX11_sunday_X4_becomes : GoodIn wsX11_sunday wsX4_becomes := goodIn_r _ [21, 22, 11, 12, 13, 14, 15, 16, 23, 24, 25, 26, 27, 28, 29, 20, 30, 31, 53, 54, 55, 56, 57, 58, 59, 60, 61, 62, 63, 64, 65, 66] (by decide +kernel) (by decide +kernel)
set_option maxRecDepth 20000 in
theorem gX11_sunday_X4_becomes : GoodIn wsX11_sunday (wsV RX11 207 RX4 yX4_becomes wsX4_becomes) := goodIn_app (goodIn_of _ (by decide +kernel)) ggX11_sunday_X4_becomes
set_option maxRecDepth 20000 in
theorem ggX11_sunday_X11_told : GoodIn wsX11_sunday wsX11_told := goodIn_r _ [34, 35] (by decide +kernel) (by decide +kernel)
set_option maxRecDepth 20000 in
theorem gX11_sunday_X11_told : GoodIn wsX11_sunday (va_wsS RX11 212 yX11_told wsX11_told) := goodIn_app (goodIn_of _ (by decide +kernel)) ggX11_sunday_X11_told
theorem dX11_sunday_0 : decode cX11_sunday 0 = .ok (.aload_n 0, 1) := by decide +kernel
theorem dX11_sunday_1 : decode cX11_sunday 1 = .ok (.iload_n 1, 1) := by decide +kernel
theorem dX11_sunday_2 : decode cX11_sunday 2 = .ok (.invokevirtual 202, 3) := by decide +kernel
theorem dX11_sunday_5 : decode cX11_sunday 5 = .ok (.ifCond .ne 7, 3) := by decide +kernel
theorem dX11_sunday_8 : decode cX11_sunday 8 = .ok (.ldc2_w 205, 3) := by decide +kernel
theorem dX11_sunday_11 : decode cX11_sunday 11 = .ok (.lreturn, 1) := by decide +kernel
theorem dX11_sunday_12 : decode cX11_sunday 12 = .ok (.aload_n 0, 1) := by decide +kernel
theorem dX11_sunday_13 : decode cX11_sunday 13 = .ok (.getfield 39, 3) := by decide +kernel
theorem dX11_sunday_16 : decode cX11_sunday 16 = .ok (.iload_n 1, 1) := by decide +kernel
theorem dX11_sunday_17 : decode cX11_sunday 17 = .ok (.iload_n 2, 1) := by decide +kernel
theorem dX11_sunday_18 : decode cX11_sunday 18 = .ok (.invokevirtual 207, 3) := by decide +kernel
theorem dX11_sunday_21 : decode cX11_sunday 21 = .ok (.i2l, 1) := by decide +kernel
theorem dX11_sunday_22 : decode cX11_sunday 22 = .ok (.ldc2_w 210, 3) := by decide +kernel
theorem dX11_sunday_25 : decode cX11_sunday 25 = .ok (.iload_n 3, 1) := by decide +kernel
theorem dX11_sunday_26 : decode cX11_sunday 26 = .ok (.invokestatic 212, 3) := by decide +kernel
theorem dX11_sunday_29 : decode cX11_sunday 29 = .ok (.lreturn, 1) := by decide +kernel
set_option maxRecDepth 20000 in
theorem ggX11_takes_X11_isRule : GoodIn wsX11_takes wsX11_isRule := goodIn_r _ [6] (by decide +kernel) (by decide +kernel)
set_option maxRecDepth 20000 in
theorem gX11_takes_X11_isRule : GoodIn wsX11_takes (wsV RX11 129 RX11 yX11_isRule wsX11_isRule) := goodIn_app (goodIn_of _ (by decide +kernel)) ggX11_takes_X11_isRule
set_option maxRecDepth 20000 in
theorem ggX11_takes_X11_isWeek : GoodIn wsX11_takes wsX11_isWeek := goodIn_r _ [10, 1, 11, 48, 49, 50, 51, 52, 53, 54, 55, 56, 57, 58, 59, 60, 61, 62, 63, 64, 65, 66, 67, 68, 69, 70, 71, 72, 73, 74, 75, 76, 77, 78] (by decide +kernel) (by decide +kernel)
set_option maxRecDepth 20000 in
theorem gX11_takes_X11_isWeek : GoodIn wsX11_takes (wsV RX11 143 RX11 yX11_isWeek wsX11_isWeek) := goodIn_app (goodIn_of _ (by decide +kernel)) ggX11_takes_X11_isWeek
set_option maxRecDepth 20000 in
theorem ggX11_takes_X11_isHands : GoodIn wsX11_takes wsX11_isHands := goodIn_r _ [15, 1, 16, 17, 18, 19, 20, 21, 22, 23, 48, 49, 50, 51, 52, 53, 54, 55, 56, 57, 58, 59, 60, 61, 62, 63, 64, 65, 66, 67, 68, 69, 70, 71, 72, 73, 74, 75, 76, 77, 78] (by decide +kernel) (by decide +kernel)
set_option maxRecDepth 20000 in
theorem gX11_takes_X11_isHands : GoodIn wsX11_takes (wsV RX11 202 RX11 yX11_isHands wsX11_isHands) := goodIn_app (goodIn_of _ (by decide +kernel)) ggX11_takes_X11_isHands
set_option maxRecDepth 20000 in
theorem ggX11_takes_X11_levelBy : GoodIn wsX11_takes wsX11_levelBy := goodIn_r _ [27, 28, 48, 49, 50, 51, 52, 53, 54, 55, 56, 57, 58, 59, 60, 61, 62, 63, 64] (by decide +kernel) (by decide +kernel)
set_option maxRecDepth 20000 in
theorem gX11_takes_X11_levelBy : GoodIn wsX11_takes (wsV RX11 139 RX11 yX11_levelBy wsX11_levelBy) := goodIn_app (goodIn_of _ (by decide +kernel)) ggX11_takes_X11_levelBy
set_option maxRecDepth 20000 in
theorem ggX11_takes_X4_takenByLevel : GoodIn wsX11_takes wsX4_takenByLevel := goodIn_r _ [33, 34, 35, 36, 37, 38, 39, 40, 41, 42, 43, 32, 44, 45, 46, 47, 22, 19, 23, 65, 66, 67, 68, 69, 70, 71, 72, 73, 74, 75, 76, 77, 78] (by decide +kernel) (by decide +kernel)
set_option maxRecDepth 20000 in
theorem gX11_takes_X4_takenByLevel : GoodIn wsX11_takes (wsV RX11 216 RX4 yX4_takenByLevel wsX4_takenByLevel) := goodIn_app (goodIn_of _ (by decide +kernel)) ggX11_takes_X4_takenByLevel
theorem dX11_takes_0 : decode cX11_takes 0 = .ok (.aload_n 0, 1) := by decide +kernel
theorem dX11_takes_1 : decode cX11_takes 1 = .ok (.iload_n 1, 1) := by decide +kernel
theorem dX11_takes_2 : decode cX11_takes 2 = .ok (.invokevirtual 129, 3) := by decide +kernel
theorem dX11_takes_5 : decode cX11_takes 5 = .ok (.ifCond .eq 11, 3) := by decide +kernel
theorem dX11_takes_8 : decode cX11_takes 8 = .ok (.aload_n 0, 1) := by decide +kernel
theorem dX11_takes_9 : decode cX11_takes 9 = .ok (.iload_n 2, 1) := by decide +kernel
theorem dX11_takes_10 : decode cX11_takes 10 = .ok (.invokevirtual 143, 3) := by decide +kernel
theorem dX11_takes_13 : decode cX11_takes 13 = .ok (.ifCond .ne 5, 3) := by decide +kernel
theorem dX11_takes_16 : decode cX11_takes 16 = .ok (.iconst (-1), 1) := by decide +kernel
theorem dX11_takes_17 : decode cX11_takes 17 = .ok (.ireturn, 1) := by decide +kernel
theorem dX11_takes_18 : decode cX11_takes 18 = .ok (.aload_n 0, 1) := by decide +kernel
theorem dX11_takes_19 : decode cX11_takes 19 = .ok (.iload_n 3, 1) := by decide +kernel
theorem dX11_takes_20 : decode cX11_takes 20 = .ok (.invokevirtual 202, 3) := by decide +kernel
theorem dX11_takes_23 : decode cX11_takes 23 = .ok (.ifCond .ne 6, 3) := by decide +kernel
theorem dX11_takes_26 : decode cX11_takes 26 = .ok (.bipush (-2), 2) := by decide +kernel
theorem dX11_takes_28 : decode cX11_takes 28 = .ok (.ireturn, 1) := by decide +kernel
theorem dX11_takes_29 : decode cX11_takes 29 = .ok (.aload_n 0, 1) := by decide +kernel
theorem dX11_takes_30 : decode cX11_takes 30 = .ok (.getfield 39, 3) := by decide +kernel
theorem dX11_takes_33 : decode cX11_takes 33 = .ok (.iload_n 2, 1) := by decide +kernel
theorem dX11_takes_34 : decode cX11_takes 34 = .ok (.iload_n 3, 1) := by decide +kernel
theorem dX11_takes_35 : decode cX11_takes 35 = .ok (.aload_n 0, 1) := by decide +kernel
theorem dX11_takes_36 : decode cX11_takes 36 = .ok (.iload_n 1, 1) := by decide +kernel
theorem dX11_takes_37 : decode cX11_takes 37 = .ok (.iload_n 2, 1) := by decide +kernel
theorem dX11_takes_38 : decode cX11_takes 38 = .ok (.invokevirtual 139, 3) := by decide +kernel
theorem dX11_takes_41 : decode cX11_takes 41 = .ok (.invokevirtual 216, 3) := by decide +kernel
theorem dX11_takes_44 : decode cX11_takes 44 = .ok (.ireturn, 1) := by decide +kernel
set_option maxRecDepth 20000 in
theorem ggX11_mean_X11_isRule : GoodIn wsX11_mean wsX11_isRule := goodIn_r _ [9] (by decide +kernel) (by decide +kernel)
set_option maxRecDepth 20000 in
theorem gX11_mean_X11_isRule : GoodIn wsX11_mean (wsV RX11 129 RX11 yX11_isRule wsX11_isRule) := goodIn_app (goodIn_of _ (by decide +kernel)) ggX11_mean_X11_isRule
set_option maxRecDepth 20000 in
theorem ggX11_mean_X11_refuseState : GoodIn wsX11_mean wsX11_refuseState := goodIn_r _ [13, 14, 15, 16, 17, 8, 18, 19, 20, 21, 22, 23, 24, 25, 26, 27, 28, 29, 30, 31, 32, 33, 34, 35, 36, 37, 139, 140, 141, 142, 143, 144, 145, 146, 147, 148, 149, 150, 151, 152, 153, 154, 155, 162, 163, 164, 165, 166, 167, 168, 169, 170, 171, 172, 173, 174, 175] (by decide +kernel) (by decide +kernel)
set_option maxRecDepth 20000 in
theorem gX11_mean_X11_refuseState : GoodIn wsX11_mean (wsV RX11 222 RX11 yX11_refuseState wsX11_refuseState) := goodIn_app (goodIn_of _ (by decide +kernel)) ggX11_mean_X11_refuseState
set_option maxRecDepth 20000 in
theorem ggX11_mean_X11_goToTheEnd : GoodIn wsX11_mean wsX11_goToTheEnd := goodIn_r _ [41, 2, 14, 19, 42, 43, 44, 45, 46, 47, 48, 49, 50, 51, 52, 53, 54, 55, 27, 56, 57, 58, 59, 60, 8, 61, 62, 63, 64, 65, 66, 67, 68, 69, 70, 71, 72, 73, 35, 74, 75, 76, 77, 78, 79, 80, 81, 82, 83, 84, 85, 86, 87, 88, 30, 31, 89, 90, 91, 92, 93, 94, 95, 96, 97, 98, 99, 100, 101, 102, 103, 104, 105, 106, 107, 37, 108, 109, 110, 111, 112, 113, 114, 115, 116, 117, 118, 119, 120, 121, 122, 123, 124, 125, 126, 127, 128, 129, 130, 131, 132, 133, 134, 139, 140, 141, 142, 143, 144, 145, 146, 147, 148, 149, 150, 151, 152, 153, 154, 155, 162, 163, 164, 165, 166, 167, 168, 169, 170, 171, 172, 173, 174, 175, 156, 157, 158, 159, 160, 161] (by decide +kernel) (by decide +kernel)
set_option maxRecDepth 20000 in
theorem gX11_mean_X11_goToTheEnd : GoodIn wsX11_mean (wsV RX11 225 RX11 yX11_goToTheEnd wsX11_goToTheEnd) := goodIn_app (goodIn_of _ (by decide +kernel)) ggX11_mean_X11_goToTheEnd
set_option maxRecDepth 20000 in
theorem ggX11_mean_X11_told : GoodIn wsX11_mean wsX11_told := goodIn_r _ [137, 138] (by decide +kernel) (by decide +kernel)
set_option maxRecDepth 20000 in
theorem gX11_mean_X11_told : GoodIn wsX11_mean (va_wsS RX11 212 yX11_told wsX11_told) := goodIn_app (goodIn_of _ (by decide +kernel)) ggX11_mean_X11_told
theorem dX11_mean_0 : decode cX11_mean 0 = .ok (.aload_n 0, 1) := by decide +kernel
theorem dX11_mean_1 : decode cX11_mean 1 = .ok (.iload_n 1, 1) := by decide +kernel
theorem dX11_mean_2 : decode cX11_mean 2 = .ok (.invokevirtual 129, 3) := by decide +kernel
theorem dX11_mean_5 : decode cX11_mean 5 = .ok (.ifCond .ne 7, 3) := by decide +kernel
theorem dX11_mean_8 : decode cX11_mean 8 = .ok (.ldc2_w 220, 3) := by decide +kernel
theorem dX11_mean_11 : decode cX11_mean 11 = .ok (.lreturn, 1) := by decide +kernel
theorem dX11_mean_12 : decode cX11_mean 12 = .ok (.aload_n 0, 1) := by decide +kernel
theorem dX11_mean_13 : decode cX11_mean 13 = .ok (.iload_n 2, 1) := by decide +kernel
theorem dX11_mean_14 : decode cX11_mean 14 = .ok (.iload_n 3, 1) := by decide +kernel
theorem dX11_mean_15 : decode cX11_mean 15 = .ok (.iload 4, 2) := by decide +kernel
theorem dX11_mean_17 : decode cX11_mean 17 = .ok (.invokevirtual 222, 3) := by decide +kernel
theorem dX11_mean_20 : decode cX11_mean 20 = .ok (.istore 6, 2) := by decide +kernel
theorem dX11_mean_22 : decode cX11_mean 22 = .ok (.iload 6, 2) := by decide +kernel
theorem dX11_mean_24 : decode cX11_mean 24 = .ok (.ifCond .eq 7, 3) := by decide +kernel
theorem dX11_mean_27 : decode cX11_mean 27 = .ok (.iload 6, 2) := by decide +kernel
theorem dX11_mean_29 : decode cX11_mean 29 = .ok (.i2l, 1) := by decide +kernel
theorem dX11_mean_30 : decode cX11_mean 30 = .ok (.lreturn, 1) := by decide +kernel
theorem dX11_mean_31 : decode cX11_mean 31 = .ok (.aload_n 0, 1) := by decide +kernel
theorem dX11_mean_32 : decode cX11_mean 32 = .ok (.iload_n 1, 1) := by decide +kernel
theorem dX11_mean_33 : decode cX11_mean 33 = .ok (.iload_n 2, 1) := by decide +kernel
theorem dX11_mean_34 : decode cX11_mean 34 = .ok (.iload_n 3, 1) := by decide +kernel
theorem dX11_mean_35 : decode cX11_mean 35 = .ok (.iload 4, 2) := by decide +kernel
theorem dX11_mean_37 : decode cX11_mean 37 = .ok (.invokevirtual 225, 3) := by decide +kernel
theorem dX11_mean_40 : decode cX11_mean 40 = .ok (.aload_n 0, 1) := by decide +kernel
theorem dX11_mean_41 : decode cX11_mean 41 = .ok (.getfield 52, 3) := by decide +kernel
theorem dX11_mean_44 : decode cX11_mean 44 = .ok (.getfield 229, 3) := by decide +kernel
theorem dX11_mean_47 : decode cX11_mean 47 = .ok (.aload_n 0, 1) := by decide +kernel
theorem dX11_mean_48 : decode cX11_mean 48 = .ok (.getfield 52, 3) := by decide +kernel
theorem dX11_mean_51 : decode cX11_mean 51 = .ok (.getfield 233, 3) := by decide +kernel
theorem dX11_mean_54 : decode cX11_mean 54 = .ok (.iload 5, 2) := by decide +kernel
theorem dX11_mean_56 : decode cX11_mean 56 = .ok (.invokestatic 212, 3) := by decide +kernel
theorem dX11_mean_59 : decode cX11_mean 59 = .ok (.lreturn, 1) := by decide +kernel
set_option maxRecDepth 20000 in
theorem ggX11_shortly_X11_isRule : GoodIn wsX11_shortly wsX11_isRule := goodIn_r _ [9] (by decide +kernel) (by decide +kernel)
set_option maxRecDepth 20000 in
theorem gX11_shortly_X11_isRule : GoodIn wsX11_shortly (wsV RX11 129 RX11 yX11_isRule wsX11_isRule) := goodIn_app (goodIn_of _ (by decide +kernel)) ggX11_shortly_X11_isRule
set_option maxRecDepth 20000 in
theorem ggX11_shortly_X11_isWeek : GoodIn wsX11_shortly wsX11_isWeek := goodIn_r _ [13, 14, 15, 117, 118, 119, 120, 121, 122, 123, 124, 125, 126, 127, 128, 129, 130, 131, 132, 133, 140, 141, 142, 143, 144, 145, 146, 147, 148, 149, 150, 151, 152, 153] (by decide +kernel) (by decide +kernel)
set_option maxRecDepth 20000 in
theorem gX11_shortly_X11_isWeek : GoodIn wsX11_shortly (wsV RX11 143 RX11 yX11_isWeek wsX11_isWeek) := goodIn_app (goodIn_of _ (by decide +kernel)) ggX11_shortly_X11_isWeek
set_option maxRecDepth 20000 in
theorem ggX11_shortly_X11_goInto : GoodIn wsX11_shortly wsX11_goInto := goodIn_r _ [19, 2, 14, 20, 21, 22, 8, 23, 24, 25, 26, 27, 28, 29, 30, 31, 32, 33, 34, 35, 36, 37, 38, 39, 40, 41, 42, 43, 44, 45, 46, 47, 48, 49, 50, 51, 52, 53, 54, 55, 56, 57, 58, 59, 60, 61, 62, 63, 64, 65, 66, 67, 68, 69, 70, 71, 72, 73, 74, 75, 76, 77, 78, 79, 80, 81, 82, 83, 84, 85, 86, 87, 88, 89, 90, 91, 92, 93, 94, 95, 96, 97, 98, 99, 100, 101, 102, 103, 104, 105, 106, 107, 108, 109, 110, 111, 112, 117, 118, 119, 120, 121, 122, 123, 124, 125, 126, 127, 128, 129, 130, 131, 132, 133, 134, 135, 136, 137, 138, 139, 140, 141, 142, 143, 144, 145, 146, 147, 148, 149, 150, 151, 152, 153] (by decide +kernel) (by decide +kernel)
set_option maxRecDepth 20000 in
theorem gX11_shortly_X11_goInto : GoodIn wsX11_shortly (wsV RX11 236 RX11 yX11_goInto wsX11_goInto) := goodIn_app (goodIn_of _ (by decide +kernel)) ggX11_shortly_X11_goInto
set_option maxRecDepth 20000 in
theorem ggX11_shortly_X11_told : GoodIn wsX11_shortly wsX11_told := goodIn_r _ [115, 116] (by decide +kernel) (by decide +kernel)
set_option maxRecDepth 20000 in
theorem gX11_shortly_X11_told : GoodIn wsX11_shortly (va_wsS RX11 212 yX11_told wsX11_told) := goodIn_app (goodIn_of _ (by decide +kernel)) ggX11_shortly_X11_told
theorem dX11_shortly_0 : decode cX11_shortly 0 = .ok (.aload_n 0, 1) := by decide +kernel
theorem dX11_shortly_1 : decode cX11_shortly 1 = .ok (.iload_n 1, 1) := by decide +kernel
theorem dX11_shortly_2 : decode cX11_shortly 2 = .ok (.invokevirtual 129, 3) := by decide +kernel
theorem dX11_shortly_5 : decode cX11_shortly 5 = .ok (.ifCond .eq 11, 3) := by decide +kernel
theorem dX11_shortly_8 : decode cX11_shortly 8 = .ok (.aload_n 0, 1) := by decide +kernel
theorem dX11_shortly_9 : decode cX11_shortly 9 = .ok (.iload_n 2, 1) := by decide +kernel
theorem dX11_shortly_10 : decode cX11_shortly 10 = .ok (.invokevirtual 143, 3) := by decide +kernel
theorem dX11_shortly_13 : decode cX11_shortly 13 = .ok (.ifCond .ne 7, 3) := by decide +kernel
theorem dX11_shortly_16 : decode cX11_shortly 16 = .ok (.ldc2_w 220, 3) := by decide +kernel
theorem dX11_shortly_19 : decode cX11_shortly 19 = .ok (.lreturn, 1) := by decide +kernel
theorem dX11_shortly_20 : decode cX11_shortly 20 = .ok (.aload_n 0, 1) := by decide +kernel
theorem dX11_shortly_21 : decode cX11_shortly 21 = .ok (.iload_n 1, 1) := by decide +kernel
theorem dX11_shortly_22 : decode cX11_shortly 22 = .ok (.iload_n 2, 1) := by decide +kernel
theorem dX11_shortly_23 : decode cX11_shortly 23 = .ok (.invokevirtual 236, 3) := by decide +kernel
theorem dX11_shortly_26 : decode cX11_shortly 26 = .ok (.aload_n 0, 1) := by decide +kernel
theorem dX11_shortly_27 : decode cX11_shortly 27 = .ok (.getfield 52, 3) := by decide +kernel
theorem dX11_shortly_30 : decode cX11_shortly 30 = .ok (.getfield 240, 3) := by decide +kernel
theorem dX11_shortly_33 : decode cX11_shortly 33 = .ok (.aload_n 0, 1) := by decide +kernel
theorem dX11_shortly_34 : decode cX11_shortly 34 = .ok (.getfield 52, 3) := by decide +kernel
theorem dX11_shortly_37 : decode cX11_shortly 37 = .ok (.getfield 233, 3) := by decide +kernel
theorem dX11_shortly_40 : decode cX11_shortly 40 = .ok (.iload_n 3, 1) := by decide +kernel
theorem dX11_shortly_41 : decode cX11_shortly 41 = .ok (.invokestatic 212, 3) := by decide +kernel
theorem dX11_shortly_44 : decode cX11_shortly 44 = .ok (.lreturn, 1) := by decide +kernel
set_option maxRecDepth 20000 in
theorem ggX11_idle_X11_isRule : GoodIn wsX11_idle wsX11_isRule := goodIn_r _ [9] (by decide +kernel) (by decide +kernel)
set_option maxRecDepth 20000 in
theorem gX11_idle_X11_isRule : GoodIn wsX11_idle (wsV RX11 129 RX11 yX11_isRule wsX11_isRule) := goodIn_app (goodIn_of _ (by decide +kernel)) ggX11_idle_X11_isRule
set_option maxRecDepth 20000 in
theorem ggX11_idle_X11_isWeek : GoodIn wsX11_idle wsX11_isWeek := goodIn_r _ [13, 14, 15, 117, 118, 119, 120, 121, 122, 123, 124, 125, 126, 127, 128, 129, 130, 131, 132, 133, 140, 141, 142, 143, 144, 145, 146, 147, 148, 149, 150, 151, 152, 153] (by decide +kernel) (by decide +kernel)
set_option maxRecDepth 20000 in
theorem gX11_idle_X11_isWeek : GoodIn wsX11_idle (wsV RX11 143 RX11 yX11_isWeek wsX11_isWeek) := goodIn_app (goodIn_of _ (by decide +kernel)) ggX11_idle_X11_isWeek
set_option maxRecDepth 20000 in
theorem ggX11_idle_X11_goInto : GoodIn wsX11_idle wsX11_goInto := goodIn_r _ [19, 2, 14, 20, 21, 22, 8, 23, 24, 25, 26, 27, 28, 29, 30, 31, 32, 33, 34, 35, 36, 37, 38, 39, 40, 41, 42, 43, 44, 45, 46, 47, 48, 49, 50, 51, 52, 53, 54, 55, 56, 57, 58, 59, 60, 61, 62, 63, 64, 65, 66, 67, 68, 69, 70, 71, 72, 73, 74, 75, 76, 77, 78, 79, 80, 81, 82, 83, 84, 85, 86, 87, 88, 89, 90, 91, 92, 93, 94, 95, 96, 97, 98, 99, 100, 101, 102, 103, 104, 105, 106, 107, 108, 109, 110, 111, 112, 117, 118, 119, 120, 121, 122, 123, 124, 125, 126, 127, 128, 129, 130, 131, 132, 133, 134, 135, 136, 137, 138, 139, 140, 141, 142, 143, 144, 145, 146, 147, 148, 149, 150, 151, 152, 153] (by decide +kernel) (by decide +kernel)
set_option maxRecDepth 20000 in
theorem gX11_idle_X11_goInto : GoodIn wsX11_idle (wsV RX11 236 RX11 yX11_goInto wsX11_goInto) := goodIn_app (goodIn_of _ (by decide +kernel)) ggX11_idle_X11_goInto
set_option maxRecDepth 20000 in
theorem ggX11_idle_X11_told : GoodIn wsX11_idle wsX11_told := goodIn_r _ [115, 116] (by decide +kernel) (by decide +kernel)
set_option maxRecDepth 20000 in
theorem gX11_idle_X11_told : GoodIn wsX11_idle (va_wsS RX11 212 yX11_told wsX11_told) := goodIn_app (goodIn_of _ (by decide +kernel)) ggX11_idle_X11_told
theorem dX11_idle_0 : decode cX11_idle 0 = .ok (.aload_n 0, 1) := by decide +kernel
theorem dX11_idle_1 : decode cX11_idle 1 = .ok (.iload_n 1, 1) := by decide +kernel
theorem dX11_idle_2 : decode cX11_idle 2 = .ok (.invokevirtual 129, 3) := by decide +kernel
theorem dX11_idle_5 : decode cX11_idle 5 = .ok (.ifCond .eq 11, 3) := by decide +kernel
theorem dX11_idle_8 : decode cX11_idle 8 = .ok (.aload_n 0, 1) := by decide +kernel
theorem dX11_idle_9 : decode cX11_idle 9 = .ok (.iload_n 2, 1) := by decide +kernel
theorem dX11_idle_10 : decode cX11_idle 10 = .ok (.invokevirtual 143, 3) := by decide +kernel
theorem dX11_idle_13 : decode cX11_idle 13 = .ok (.ifCond .ne 7, 3) := by decide +kernel
theorem dX11_idle_16 : decode cX11_idle 16 = .ok (.ldc2_w 220, 3) := by decide +kernel
theorem dX11_idle_19 : decode cX11_idle 19 = .ok (.lreturn, 1) := by decide +kernel
theorem dX11_idle_20 : decode cX11_idle 20 = .ok (.aload_n 0, 1) := by decide +kernel
theorem dX11_idle_21 : decode cX11_idle 21 = .ok (.iload_n 1, 1) := by decide +kernel
theorem dX11_idle_22 : decode cX11_idle 22 = .ok (.iload_n 2, 1) := by decide +kernel
theorem dX11_idle_23 : decode cX11_idle 23 = .ok (.invokevirtual 236, 3) := by decide +kernel
theorem dX11_idle_26 : decode cX11_idle 26 = .ok (.aload_n 0, 1) := by decide +kernel
theorem dX11_idle_27 : decode cX11_idle 27 = .ok (.getfield 52, 3) := by decide +kernel
theorem dX11_idle_30 : decode cX11_idle 30 = .ok (.getfield 243, 3) := by decide +kernel
theorem dX11_idle_33 : decode cX11_idle 33 = .ok (.aload_n 0, 1) := by decide +kernel
theorem dX11_idle_34 : decode cX11_idle 34 = .ok (.getfield 52, 3) := by decide +kernel
theorem dX11_idle_37 : decode cX11_idle 37 = .ok (.getfield 233, 3) := by decide +kernel
theorem dX11_idle_40 : decode cX11_idle 40 = .ok (.iload_n 3, 1) := by decide +kernel
theorem dX11_idle_41 : decode cX11_idle 41 = .ok (.invokestatic 212, 3) := by decide +kernel
theorem dX11_idle_44 : decode cX11_idle 44 = .ok (.lreturn, 1) := by decide +kernel
set_option maxRecDepth 20000 in
theorem ggX11_there_X11_isRule : GoodIn wsX11_there wsX11_isRule := goodIn_r _ [11] (by decide +kernel) (by decide +kernel)
set_option maxRecDepth 20000 in
theorem gX11_there_X11_isRule : GoodIn wsX11_there (wsV RX11 129 RX11 yX11_isRule wsX11_isRule) := goodIn_app (goodIn_of _ (by decide +kernel)) ggX11_there_X11_isRule
set_option maxRecDepth 20000 in
theorem ggX11_there_X11_goAheadOf : GoodIn wsX11_there wsX11_goAheadOf := goodIn_r _ [15, 5, 1, 16, 17, 18, 19, 20, 21, 22, 23, 24, 25, 26, 27, 28, 29, 30, 31, 32, 33, 34, 35, 10, 36, 37, 38, 39, 40, 41, 42, 43, 44, 45, 46, 47, 48, 49, 50, 51, 52, 53, 54, 55, 56, 57, 58, 59, 60, 61, 62, 63, 64, 65, 66, 67, 68, 69, 70, 71, 72, 73, 74, 75, 76, 77, 78, 79, 80, 81, 82, 83, 84, 85, 86, 87, 88, 89, 90, 91, 92, 93, 94, 95, 96, 97, 98, 99, 100, 101, 102, 103, 104, 114, 115, 116, 117, 118, 119, 120, 121, 122, 123, 124, 125, 126, 127, 128, 129, 130, 145, 146, 147, 148, 149, 150, 131, 132, 133, 134, 135, 136, 137, 138, 139, 140, 141, 142, 143, 144] (by decide +kernel) (by decide +kernel)
set_option maxRecDepth 20000 in
theorem gX11_there_X11_goAheadOf : GoodIn wsX11_there (wsV RX11 246 RX11 yX11_goAheadOf wsX11_goAheadOf) := goodIn_app (goodIn_of _ (by decide +kernel)) ggX11_there_X11_goAheadOf
set_option maxRecDepth 20000 in
theorem ggX11_there_X1_shareOf : GoodIn wsX11_there wsX1_shareOf := goodIn_r _ [108, 45, 21, 109, 65, 30, 66, 145, 146, 147, 148, 149, 150] (by decide +kernel) (by decide +kernel)
set_option maxRecDepth 20000 in
theorem gX11_there_X1_shareOf : GoodIn wsX11_there (wsV RX11 249 RX1 yX1_shareOf wsX1_shareOf) := goodIn_app (goodIn_of _ (by decide +kernel)) ggX11_there_X1_shareOf
set_option maxRecDepth 20000 in
theorem ggX11_there_X11_told : GoodIn wsX11_there wsX11_told := goodIn_r _ [112, 113] (by decide +kernel) (by decide +kernel)
set_option maxRecDepth 20000 in
theorem gX11_there_X11_told : GoodIn wsX11_there (va_wsS RX11 212 yX11_told wsX11_told) := goodIn_app (goodIn_of _ (by decide +kernel)) ggX11_there_X11_told
theorem dX11_there_0 : decode cX11_there 0 = .ok (.aload_n 0, 1) := by decide +kernel
theorem dX11_there_1 : decode cX11_there 1 = .ok (.iload_n 1, 1) := by decide +kernel
theorem dX11_there_2 : decode cX11_there 2 = .ok (.invokevirtual 129, 3) := by decide +kernel
theorem dX11_there_5 : decode cX11_there 5 = .ok (.ifCond .eq 18, 3) := by decide +kernel
theorem dX11_there_8 : decode cX11_there 8 = .ok (.iload_n 2, 1) := by decide +kernel
theorem dX11_there_9 : decode cX11_there 9 = .ok (.ifCond .lt 14, 3) := by decide +kernel
theorem dX11_there_12 : decode cX11_there 12 = .ok (.iload_n 2, 1) := by decide +kernel
theorem dX11_there_13 : decode cX11_there 13 = .ok (.aload_n 0, 1) := by decide +kernel
theorem dX11_there_14 : decode cX11_there 14 = .ok (.getfield 39, 3) := by decide +kernel
theorem dX11_there_17 : decode cX11_there 17 = .ok (.getfield 126, 3) := by decide +kernel
theorem dX11_there_20 : decode cX11_there 20 = .ok (.if_icmp .le 7, 3) := by decide +kernel
theorem dX11_there_23 : decode cX11_there 23 = .ok (.ldc2_w 220, 3) := by decide +kernel
theorem dX11_there_26 : decode cX11_there 26 = .ok (.lreturn, 1) := by decide +kernel
theorem dX11_there_27 : decode cX11_there 27 = .ok (.iload_n 3, 1) := by decide +kernel
theorem dX11_there_28 : decode cX11_there 28 = .ok (.ifCond .lt 8, 3) := by decide +kernel
theorem dX11_there_31 : decode cX11_there 31 = .ok (.iload_n 3, 1) := by decide +kernel
theorem dX11_there_32 : decode cX11_there 32 = .ok (.iconst 4, 1) := by decide +kernel
theorem dX11_there_33 : decode cX11_there 33 = .ok (.if_icmp .le 7, 3) := by decide +kernel
theorem dX11_there_36 : decode cX11_there 36 = .ok (.ldc2_w 205, 3) := by decide +kernel
theorem dX11_there_39 : decode cX11_there 39 = .ok (.lreturn, 1) := by decide +kernel
theorem dX11_there_40 : decode cX11_there 40 = .ok (.aload_n 0, 1) := by decide +kernel
theorem dX11_there_41 : decode cX11_there 41 = .ok (.iload_n 1, 1) := by decide +kernel
theorem dX11_there_42 : decode cX11_there 42 = .ok (.iload_n 2, 1) := by decide +kernel
theorem dX11_there_43 : decode cX11_there 43 = .ok (.invokevirtual 246, 3) := by decide +kernel
theorem dX11_there_46 : decode cX11_there 46 = .ok (.aload_n 0, 1) := by decide +kernel
theorem dX11_there_47 : decode cX11_there 47 = .ok (.getfield 52, 3) := by decide +kernel
theorem dX11_there_50 : decode cX11_there 50 = .ok (.iload_n 3, 1) := by decide +kernel
theorem dX11_there_51 : decode cX11_there 51 = .ok (.invokevirtual 249, 3) := by decide +kernel
theorem dX11_there_54 : decode cX11_there 54 = .ok (.aload_n 0, 1) := by decide +kernel
theorem dX11_there_55 : decode cX11_there 55 = .ok (.getfield 52, 3) := by decide +kernel
theorem dX11_there_58 : decode cX11_there 58 = .ok (.getfield 233, 3) := by decide +kernel
theorem dX11_there_61 : decode cX11_there 61 = .ok (.iload 4, 2) := by decide +kernel
theorem dX11_there_63 : decode cX11_there 63 = .ok (.invokestatic 212, 3) := by decide +kernel
theorem dX11_there_66 : decode cX11_there 66 = .ok (.lreturn, 1) := by decide +kernel
set_option maxRecDepth 20000 in
theorem ggX11_cheapest_X11_goToTheEnd : GoodIn wsX11_cheapest wsX11_goToTheEnd := goodIn_r _ [7, 1, 8, 9, 10, 11, 12, 13, 14, 15, 16, 17, 18, 19, 20, 21, 22, 23, 24, 25, 26, 27, 28, 29, 6, 30, 31, 32, 33, 34, 35, 36, 37, 38, 39, 40, 41, 42, 43, 44, 45, 46, 47, 48, 49, 50, 51, 52, 53, 54, 55, 56, 57, 58, 59, 60, 61, 62, 63, 64, 65, 66, 67, 68, 69, 70, 71, 72, 73, 74, 75, 76, 77, 78, 79, 80, 81, 82, 83, 84, 85, 86, 87, 88, 89, 90, 91, 92, 93, 94, 95, 96, 97, 98, 99, 100, 101, 102, 103, 104, 105, 106, 107, 108, 109, 110, 111, 112, 113, 114, 115, 116, 117, 118, 119, 120, 121, 122, 123, 124, 131, 132, 133, 134, 135, 136, 137, 138, 139, 140, 141, 142, 143, 144, 125, 126, 127, 128, 129, 130] (by decide +kernel) (by decide +kernel)
set_option maxRecDepth 20000 in
theorem gX11_cheapest_X11_goToTheEnd : GoodIn wsX11_cheapest (wsV RX11 225 RX11 yX11_goToTheEnd wsX11_goToTheEnd) := goodIn_app (goodIn_of _ (by decide +kernel)) ggX11_cheapest_X11_goToTheEnd
theorem dX11_cheapest_0 : decode cX11_cheapest 0 = .ok (.iconst 0, 1) := by decide +kernel
theorem dX11_cheapest_1 : decode cX11_cheapest 1 = .ok (.istore_n 1, 1) := by decide +kernel
theorem dX11_cheapest_2 : decode cX11_cheapest 2 = .ok (.lconst 0, 1) := by decide +kernel
theorem dX11_cheapest_3 : decode cX11_cheapest 3 = .ok (.lstore_n 2, 1) := by decide +kernel
theorem dX11_cheapest_4 : decode cX11_cheapest 4 = .ok (.iconst 0, 1) := by decide +kernel
theorem dX11_cheapest_5 : decode cX11_cheapest 5 = .ok (.istore 4, 2) := by decide +kernel
theorem dX11_cheapest_7 : decode cX11_cheapest 7 = .ok (.iload 4, 2) := by decide +kernel
theorem dX11_cheapest_9 : decode cX11_cheapest 9 = .ok (.iconst 3, 1) := by decide +kernel
theorem dX11_cheapest_10 : decode cX11_cheapest 10 = .ok (.if_icmp .ge 46, 3) := by decide +kernel
theorem dX11_cheapest_13 : decode cX11_cheapest 13 = .ok (.aload_n 0, 1) := by decide +kernel
theorem dX11_cheapest_14 : decode cX11_cheapest 14 = .ok (.iload 4, 2) := by decide +kernel
theorem dX11_cheapest_16 : decode cX11_cheapest 16 = .ok (.iconst 0, 1) := by decide +kernel
theorem dX11_cheapest_17 : decode cX11_cheapest 17 = .ok (.iconst 0, 1) := by decide +kernel
theorem dX11_cheapest_18 : decode cX11_cheapest 18 = .ok (.iconst 0, 1) := by decide +kernel
theorem dX11_cheapest_19 : decode cX11_cheapest 19 = .ok (.invokevirtual 225, 3) := by decide +kernel
theorem dX11_cheapest_22 : decode cX11_cheapest 22 = .ok (.iload 4, 2) := by decide +kernel
theorem dX11_cheapest_24 : decode cX11_cheapest 24 = .ok (.ifCond .eq 15, 3) := by decide +kernel
theorem dX11_cheapest_27 : decode cX11_cheapest 27 = .ok (.aload_n 0, 1) := by decide +kernel
theorem dX11_cheapest_28 : decode cX11_cheapest 28 = .ok (.getfield 52, 3) := by decide +kernel
theorem dX11_cheapest_31 : decode cX11_cheapest 31 = .ok (.getfield 229, 3) := by decide +kernel
theorem dX11_cheapest_34 : decode cX11_cheapest 34 = .ok (.lload_n 2, 1) := by decide +kernel
theorem dX11_cheapest_35 : decode cX11_cheapest 35 = .ok (.lcmp, 1) := by decide +kernel
theorem dX11_cheapest_36 : decode cX11_cheapest 36 = .ok (.ifCond .ge 14, 3) := by decide +kernel
theorem dX11_cheapest_39 : decode cX11_cheapest 39 = .ok (.iload 4, 2) := by decide +kernel
theorem dX11_cheapest_41 : decode cX11_cheapest 41 = .ok (.istore_n 1, 1) := by decide +kernel
theorem dX11_cheapest_42 : decode cX11_cheapest 42 = .ok (.aload_n 0, 1) := by decide +kernel
theorem dX11_cheapest_43 : decode cX11_cheapest 43 = .ok (.getfield 52, 3) := by decide +kernel
theorem dX11_cheapest_46 : decode cX11_cheapest 46 = .ok (.getfield 229, 3) := by decide +kernel
theorem dX11_cheapest_49 : decode cX11_cheapest 49 = .ok (.lstore_n 2, 1) := by decide +kernel
theorem dX11_cheapest_50 : decode cX11_cheapest 50 = .ok (.iinc 4 1, 3) := by decide +kernel
theorem dX11_cheapest_53 : decode cX11_cheapest 53 = .ok (.goto (-46), 3) := by decide +kernel
theorem dX11_cheapest_56 : decode cX11_cheapest 56 = .ok (.iload_n 1, 1) := by decide +kernel
theorem dX11_cheapest_57 : decode cX11_cheapest 57 = .ok (.ireturn, 1) := by decide +kernel
set_option maxRecDepth 20000 in
theorem ggX11_best_X11_refuseState : GoodIn wsX11_best wsX11_refuseState := goodIn_r _ [6, 7, 8, 9, 10, 5, 11, 12, 13, 14, 15, 16, 17, 18, 19, 20, 21, 22, 23, 24, 25, 26, 27, 28, 29, 30, 164, 165, 166, 167, 168, 169, 170, 171, 172, 173, 174, 175, 176, 177, 178, 179, 180, 181, 182, 183, 184, 185, 186, 187, 188, 189, 190, 191, 192, 193, 194] (by decide +kernel) (by decide +kernel)
set_option maxRecDepth 20000 in
theorem gX11_best_X11_refuseState : GoodIn wsX11_best (wsV RX11 222 RX11 yX11_refuseState wsX11_refuseState) := goodIn_app (goodIn_of _ (by decide +kernel)) ggX11_best_X11_refuseState
set_option maxRecDepth 20000 in
theorem ggX11_best_X11_planOnce : GoodIn wsX11_best wsX11_planOnce := goodIn_r _ [34, 35, 1, 7, 36, 37, 38, 39, 40, 41, 42, 43, 44, 45, 46, 47, 48, 49, 50, 28, 51, 52, 53, 23, 20, 24, 54, 55, 56, 57, 58, 59, 60, 61, 62, 63, 64, 65, 66, 26, 27, 29, 30, 67, 68, 69, 70, 71, 72, 73, 74, 75, 76, 77, 78, 79, 80, 81, 82, 83, 84, 85, 86, 87, 88, 89, 90, 91, 92, 93, 94, 95, 96, 97, 98, 99, 100, 101, 102, 103, 104, 105, 106, 107, 108, 109, 110, 111, 112, 113, 114, 115, 116, 117, 118, 119, 120, 121, 122, 123, 124, 125, 126, 127, 128, 129, 130, 131, 132, 133, 134, 135, 136, 137, 138, 139, 140, 141, 142, 143, 144, 145, 146, 147, 148, 149, 150, 151, 152, 153, 154, 164, 165, 166, 167, 168, 169, 170, 171, 172, 173, 174, 175, 176, 177, 178, 179, 180, 181, 182, 183, 184, 185, 186, 187, 188, 189, 190, 191, 192, 193, 194, 195, 196, 197, 198, 199] (by decide +kernel) (by decide +kernel)
set_option maxRecDepth 20000 in
theorem gX11_best_X11_planOnce : GoodIn wsX11_best (wsV RX11 253 RX11 yX11_planOnce wsX11_planOnce) := goodIn_app (goodIn_of _ (by decide +kernel)) ggX11_best_X11_planOnce
set_option maxRecDepth 20000 in
theorem ggX11_best_X6_leastFrom : GoodIn wsX11_best wsX6_leastFrom := goodIn_r _ [158, 43, 134, 135, 20, 136, 137, 45, 46, 39, 47, 195, 196, 197, 198, 199] (by decide +kernel) (by decide +kernel)
set_option maxRecDepth 20000 in
theorem gX11_best_X6_leastFrom : GoodIn wsX11_best (wsV RX11 256 RX6 yX6_leastFrom wsX6_leastFrom) := goodIn_app (goodIn_of _ (by decide +kernel)) ggX11_best_X6_leastFrom
set_option maxRecDepth 20000 in
theorem ggX11_best_X6_scale : GoodIn wsX11_best wsX6_scale := goodIn_r _ [91, 92, 42, 195, 196, 197, 198, 199] (by decide +kernel) (by decide +kernel)
set_option maxRecDepth 20000 in
theorem gX11_best_X6_scale : GoodIn wsX11_best (wsV RX11 260 RX6 yX6_scale wsX6_scale) := goodIn_app (goodIn_of _ (by decide +kernel)) ggX11_best_X6_scale
set_option maxRecDepth 20000 in
theorem ggX11_best_X11_told : GoodIn wsX11_best wsX11_told := goodIn_r _ [162, 163] (by decide +kernel) (by decide +kernel)
set_option maxRecDepth 20000 in
theorem gX11_best_X11_told : GoodIn wsX11_best (va_wsS RX11 212 yX11_told wsX11_told) := goodIn_app (goodIn_of _ (by decide +kernel)) ggX11_best_X11_told
theorem dX11_best_0 : decode cX11_best 0 = .ok (.aload_n 0, 1) := by decide +kernel
theorem dX11_best_1 : decode cX11_best 1 = .ok (.iload_n 1, 1) := by decide +kernel
theorem dX11_best_2 : decode cX11_best 2 = .ok (.iload_n 2, 1) := by decide +kernel
theorem dX11_best_3 : decode cX11_best 3 = .ok (.iload_n 3, 1) := by decide +kernel
theorem dX11_best_4 : decode cX11_best 4 = .ok (.invokevirtual 222, 3) := by decide +kernel
theorem dX11_best_7 : decode cX11_best 7 = .ok (.istore 5, 2) := by decide +kernel
theorem dX11_best_9 : decode cX11_best 9 = .ok (.iload 5, 2) := by decide +kernel
theorem dX11_best_11 : decode cX11_best 11 = .ok (.ifCond .eq 7, 3) := by decide +kernel
theorem dX11_best_14 : decode cX11_best 14 = .ok (.iload 5, 2) := by decide +kernel
theorem dX11_best_16 : decode cX11_best 16 = .ok (.i2l, 1) := by decide +kernel
theorem dX11_best_17 : decode cX11_best 17 = .ok (.lreturn, 1) := by decide +kernel
theorem dX11_best_18 : decode cX11_best 18 = .ok (.aload_n 0, 1) := by decide +kernel
theorem dX11_best_19 : decode cX11_best 19 = .ok (.invokevirtual 253, 3) := by decide +kernel
theorem dX11_best_22 : decode cX11_best 22 = .ok (.aload_n 0, 1) := by decide +kernel
theorem dX11_best_23 : decode cX11_best 23 = .ok (.getfield 59, 3) := by decide +kernel
theorem dX11_best_26 : decode cX11_best 26 = .ok (.iload_n 1, 1) := by decide +kernel
theorem dX11_best_27 : decode cX11_best 27 = .ok (.iload_n 2, 1) := by decide +kernel
theorem dX11_best_28 : decode cX11_best 28 = .ok (.iload_n 3, 1) := by decide +kernel
theorem dX11_best_29 : decode cX11_best 29 = .ok (.invokevirtual 256, 3) := by decide +kernel
theorem dX11_best_32 : decode cX11_best 32 = .ok (.aload_n 0, 1) := by decide +kernel
theorem dX11_best_33 : decode cX11_best 33 = .ok (.getfield 59, 3) := by decide +kernel
theorem dX11_best_36 : decode cX11_best 36 = .ok (.iload_n 1, 1) := by decide +kernel
theorem dX11_best_37 : decode cX11_best 37 = .ok (.invokevirtual 260, 3) := by decide +kernel
theorem dX11_best_40 : decode cX11_best 40 = .ok (.iload 4, 2) := by decide +kernel
theorem dX11_best_42 : decode cX11_best 42 = .ok (.invokestatic 212, 3) := by decide +kernel
theorem dX11_best_45 : decode cX11_best 45 = .ok (.lreturn, 1) := by decide +kernel
set_option maxRecDepth 20000 in
theorem ggX11_bestAct_X11_refuseState : GoodIn wsX11_bestAct wsX11_refuseState := goodIn_r _ [6, 7, 8, 9, 10, 5, 11, 12, 13, 14, 15, 16, 17, 18, 19, 20, 21, 22, 23, 24, 25, 26, 27, 28, 29, 30, 159, 160, 161, 162, 163, 164, 165, 166, 167, 168, 169, 170, 171, 172, 173, 174, 175, 176, 177, 178, 179, 180, 181, 182, 183, 184, 185, 186, 187, 188, 189] (by decide +kernel) (by decide +kernel)
set_option maxRecDepth 20000 in
theorem gX11_bestAct_X11_refuseState : GoodIn wsX11_bestAct (wsV RX11 222 RX11 yX11_refuseState wsX11_refuseState) := goodIn_app (goodIn_of _ (by decide +kernel)) ggX11_bestAct_X11_refuseState
set_option maxRecDepth 20000 in
theorem ggX11_bestAct_X11_planOnce : GoodIn wsX11_bestAct wsX11_planOnce := goodIn_r _ [34, 35, 1, 7, 36, 37, 38, 39, 40, 41, 42, 43, 44, 45, 46, 47, 48, 49, 50, 28, 51, 52, 53, 23, 20, 24, 54, 55, 56, 57, 58, 59, 60, 61, 62, 63, 64, 65, 66, 26, 27, 29, 30, 67, 68, 69, 70, 71, 72, 73, 74, 75, 76, 77, 78, 79, 80, 81, 82, 83, 84, 85, 86, 87, 88, 89, 90, 91, 92, 93, 94, 95, 96, 97, 98, 99, 100, 101, 102, 103, 104, 105, 106, 107, 108, 109, 110, 111, 112, 113, 114, 115, 116, 117, 118, 119, 120, 121, 122, 123, 124, 125, 126, 127, 128, 129, 130, 131, 132, 133, 134, 135, 136, 137, 138, 139, 140, 141, 142, 143, 144, 145, 146, 147, 148, 149, 150, 151, 152, 153, 154, 159, 160, 161, 162, 163, 164, 165, 166, 167, 168, 169, 170, 171, 172, 173, 174, 175, 176, 177, 178, 179, 180, 181, 182, 183, 184, 185, 186, 187, 188, 189, 190, 191, 192, 193, 194] (by decide +kernel) (by decide +kernel)
set_option maxRecDepth 20000 in
theorem gX11_bestAct_X11_planOnce : GoodIn wsX11_bestAct (wsV RX11 253 RX11 yX11_planOnce wsX11_planOnce) := goodIn_app (goodIn_of _ (by decide +kernel)) ggX11_bestAct_X11_planOnce
set_option maxRecDepth 20000 in
theorem ggX11_bestAct_X6_firstAct : GoodIn wsX11_bestAct wsX6_firstAct := goodIn_r _ [158, 87, 134, 135, 20, 136, 137, 45, 46, 39, 47, 190, 191, 192, 193, 194] (by decide +kernel) (by decide +kernel)
set_option maxRecDepth 20000 in
theorem gX11_bestAct_X6_firstAct : GoodIn wsX11_bestAct (wsV RX11 262 RX6 yX6_firstAct wsX6_firstAct) := goodIn_app (goodIn_of _ (by decide +kernel)) ggX11_bestAct_X6_firstAct
theorem dX11_bestAct_0 : decode cX11_bestAct 0 = .ok (.aload_n 0, 1) := by decide +kernel
theorem dX11_bestAct_1 : decode cX11_bestAct 1 = .ok (.iload_n 1, 1) := by decide +kernel
theorem dX11_bestAct_2 : decode cX11_bestAct 2 = .ok (.iload_n 2, 1) := by decide +kernel
theorem dX11_bestAct_3 : decode cX11_bestAct 3 = .ok (.iload_n 3, 1) := by decide +kernel
theorem dX11_bestAct_4 : decode cX11_bestAct 4 = .ok (.invokevirtual 222, 3) := by decide +kernel
theorem dX11_bestAct_7 : decode cX11_bestAct 7 = .ok (.istore 4, 2) := by decide +kernel
theorem dX11_bestAct_9 : decode cX11_bestAct 9 = .ok (.iload 4, 2) := by decide +kernel
theorem dX11_bestAct_11 : decode cX11_bestAct 11 = .ok (.ifCond .eq 6, 3) := by decide +kernel
theorem dX11_bestAct_14 : decode cX11_bestAct 14 = .ok (.iload 4, 2) := by decide +kernel
theorem dX11_bestAct_16 : decode cX11_bestAct 16 = .ok (.ireturn, 1) := by decide +kernel
theorem dX11_bestAct_17 : decode cX11_bestAct 17 = .ok (.aload_n 0, 1) := by decide +kernel
theorem dX11_bestAct_18 : decode cX11_bestAct 18 = .ok (.invokevirtual 253, 3) := by decide +kernel
theorem dX11_bestAct_21 : decode cX11_bestAct 21 = .ok (.aload_n 0, 1) := by decide +kernel
theorem dX11_bestAct_22 : decode cX11_bestAct 22 = .ok (.getfield 59, 3) := by decide +kernel
theorem dX11_bestAct_25 : decode cX11_bestAct 25 = .ok (.iload_n 1, 1) := by decide +kernel
theorem dX11_bestAct_26 : decode cX11_bestAct 26 = .ok (.iload_n 2, 1) := by decide +kernel
theorem dX11_bestAct_27 : decode cX11_bestAct 27 = .ok (.iload_n 3, 1) := by decide +kernel
theorem dX11_bestAct_28 : decode cX11_bestAct 28 = .ok (.invokevirtual 262, 3) := by decide +kernel
theorem dX11_bestAct_31 : decode cX11_bestAct 31 = .ok (.ireturn, 1) := by decide +kernel
set_option maxRecDepth 20000 in
theorem ggX11_shape_X11_isWeek : GoodIn wsX11_shape wsX11_isWeek := goodIn_r _ [5, 6, 7, 165, 166, 167, 168, 169, 170, 171, 172, 173, 174, 175, 176, 177, 178, 179, 180, 181, 182, 183, 184, 185, 186, 187, 188, 189, 190, 191, 192, 193, 194, 195] (by decide +kernel) (by decide +kernel)
set_option maxRecDepth 20000 in
theorem gX11_shape_X11_isWeek : GoodIn wsX11_shape (wsV RX11 143 RX11 yX11_isWeek wsX11_isWeek) := goodIn_app (goodIn_of _ (by decide +kernel)) ggX11_shape_X11_isWeek
set_option maxRecDepth 20000 in
theorem ggX11_shape_X11_planOnce : GoodIn wsX11_shape wsX11_planOnce := goodIn_r _ [11, 12, 13, 6, 14, 15, 16, 17, 18, 19, 20, 21, 22, 23, 24, 25, 26, 27, 28, 29, 30, 31, 32, 33, 34, 35, 36, 37, 38, 39, 40, 41, 42, 43, 44, 45, 46, 47, 48, 49, 50, 51, 52, 53, 54, 55, 56, 57, 58, 59, 60, 61, 62, 63, 64, 65, 66, 67, 68, 69, 70, 71, 72, 73, 74, 75, 76, 77, 78, 79, 80, 81, 82, 83, 84, 85, 86, 87, 88, 89, 90, 91, 92, 93, 94, 95, 96, 97, 98, 99, 100, 101, 102, 103, 104, 105, 106, 107, 108, 109, 110, 111, 112, 113, 114, 115, 116, 117, 118, 119, 120, 121, 122, 123, 124, 125, 126, 127, 128, 129, 130, 131, 132, 133, 134, 135, 136, 137, 138, 139, 140, 165, 166, 167, 168, 169, 170, 171, 172, 173, 174, 175, 176, 177, 178, 179, 180, 181, 182, 183, 184, 185, 186, 187, 188, 189, 190, 191, 192, 193, 194, 195, 196, 197, 198, 199, 200] (by decide +kernel) (by decide +kernel)
set_option maxRecDepth 20000 in
theorem gX11_shape_X11_planOnce : GoodIn wsX11_shape (wsV RX11 253 RX11 yX11_planOnce wsX11_planOnce) := goodIn_app (goodIn_of _ (by decide +kernel)) ggX11_shape_X11_planOnce
set_option maxRecDepth 20000 in
theorem ggX11_shape_X11_firstAgainst : GoodIn wsX11_shape wsX11_firstAgainst := goodIn_r _ [144, 145, 13, 6, 146, 147, 148, 4, 149, 150, 151, 152, 34, 153, 154, 33, 35, 155, 156, 157, 17, 158, 73, 120, 121, 122, 123, 23, 24, 25, 159, 115, 108, 116, 160, 161, 162, 29, 163, 130, 131, 89, 132, 97, 88, 90, 164, 92, 93, 94, 95, 96, 32, 165, 166, 167, 168, 169, 170, 171, 172, 173, 174, 175, 176, 177, 178, 179, 180, 181, 182, 183, 184, 185, 186, 187, 188, 189, 190, 191, 192, 193, 194, 195, 196, 197, 198, 199, 200] (by decide +kernel) (by decide +kernel)
set_option maxRecDepth 20000 in
theorem gX11_shape_X11_firstAgainst : GoodIn wsX11_shape (wsV RX11 265 RX11 yX11_firstAgainst wsX11_firstAgainst) := goodIn_app (goodIn_of _ (by decide +kernel)) ggX11_shape_X11_firstAgainst
theorem dX11_shape_0 : decode cX11_shape 0 = .ok (.aload_n 0, 1) := by decide +kernel
theorem dX11_shape_1 : decode cX11_shape 1 = .ok (.iload_n 1, 1) := by decide +kernel
theorem dX11_shape_2 : decode cX11_shape 2 = .ok (.invokevirtual 143, 3) := by decide +kernel
theorem dX11_shape_5 : decode cX11_shape 5 = .ok (.ifCond .ne 5, 3) := by decide +kernel
theorem dX11_shape_8 : decode cX11_shape 8 = .ok (.iconst (-1), 1) := by decide +kernel
theorem dX11_shape_9 : decode cX11_shape 9 = .ok (.ireturn, 1) := by decide +kernel
theorem dX11_shape_10 : decode cX11_shape 10 = .ok (.aload_n 0, 1) := by decide +kernel
theorem dX11_shape_11 : decode cX11_shape 11 = .ok (.invokevirtual 253, 3) := by decide +kernel
theorem dX11_shape_14 : decode cX11_shape 14 = .ok (.iconst 0, 1) := by decide +kernel
theorem dX11_shape_15 : decode cX11_shape 15 = .ok (.istore_n 2, 1) := by decide +kernel
theorem dX11_shape_16 : decode cX11_shape 16 = .ok (.iload_n 2, 1) := by decide +kernel
theorem dX11_shape_17 : decode cX11_shape 17 = .ok (.iconst 4, 1) := by decide +kernel
theorem dX11_shape_18 : decode cX11_shape 18 = .ok (.if_icmp .gt 22, 3) := by decide +kernel
theorem dX11_shape_21 : decode cX11_shape 21 = .ok (.aload_n 0, 1) := by decide +kernel
theorem dX11_shape_22 : decode cX11_shape 22 = .ok (.iload_n 1, 1) := by decide +kernel
theorem dX11_shape_23 : decode cX11_shape 23 = .ok (.iload_n 2, 1) := by decide +kernel
theorem dX11_shape_24 : decode cX11_shape 24 = .ok (.invokevirtual 265, 3) := by decide +kernel
theorem dX11_shape_27 : decode cX11_shape 27 = .ok (.bipush (-9), 2) := by decide +kernel
theorem dX11_shape_29 : decode cX11_shape 29 = .ok (.if_icmp .ne 5, 3) := by decide +kernel
theorem dX11_shape_32 : decode cX11_shape 32 = .ok (.iload_n 2, 1) := by decide +kernel
theorem dX11_shape_33 : decode cX11_shape 33 = .ok (.ireturn, 1) := by decide +kernel
theorem dX11_shape_34 : decode cX11_shape 34 = .ok (.iinc 2 1, 3) := by decide +kernel
theorem dX11_shape_37 : decode cX11_shape 37 = .ok (.goto (-21), 3) := by decide +kernel
theorem dX11_shape_40 : decode cX11_shape 40 = .ok (.bipush (-9), 2) := by decide +kernel
theorem dX11_shape_42 : decode cX11_shape 42 = .ok (.ireturn, 1) := by decide +kernel
set_option maxRecDepth 20000 in
theorem ggX11_against_X11_isWeek : GoodIn wsX11_against wsX11_isWeek := goodIn_r _ [5, 6, 7, 165, 166, 167, 168, 169, 170, 171, 172, 173, 174, 175, 176, 177, 178, 179, 180, 181, 182, 183, 184, 185, 186, 187, 188, 189, 190, 191, 192, 193, 194, 195] (by decide +kernel) (by decide +kernel)
set_option maxRecDepth 20000 in
theorem gX11_against_X11_isWeek : GoodIn wsX11_against (wsV RX11 143 RX11 yX11_isWeek wsX11_isWeek) := goodIn_app (goodIn_of _ (by decide +kernel)) ggX11_against_X11_isWeek
set_option maxRecDepth 20000 in
theorem ggX11_against_X11_planOnce : GoodIn wsX11_against wsX11_planOnce := goodIn_r _ [11, 12, 13, 6, 14, 15, 16, 17, 18, 19, 20, 21, 22, 23, 24, 25, 26, 27, 28, 29, 30, 31, 32, 33, 34, 35, 36, 37, 38, 39, 40, 41, 42, 43, 44, 45, 46, 47, 48, 49, 50, 51, 52, 53, 54, 55, 56, 57, 58, 59, 60, 61, 62, 63, 64, 65, 66, 67, 68, 69, 70, 71, 72, 73, 74, 75, 76, 77, 78, 79, 80, 81, 82, 83, 84, 85, 86, 87, 88, 89, 90, 91, 92, 93, 94, 95, 96, 97, 98, 99, 100, 101, 102, 103, 104, 105, 106, 107, 108, 109, 110, 111, 112, 113, 114, 115, 116, 117, 118, 119, 120, 121, 122, 123, 124, 125, 126, 127, 128, 129, 130, 131, 132, 133, 134, 135, 136, 137, 138, 139, 140, 165, 166, 167, 168, 169, 170, 171, 172, 173, 174, 175, 176, 177, 178, 179, 180, 181, 182, 183, 184, 185, 186, 187, 188, 189, 190, 191, 192, 193, 194, 195, 196, 197, 198, 199, 200] (by decide +kernel) (by decide +kernel)
set_option maxRecDepth 20000 in
theorem gX11_against_X11_planOnce : GoodIn wsX11_against (wsV RX11 253 RX11 yX11_planOnce wsX11_planOnce) := goodIn_app (goodIn_of _ (by decide +kernel)) ggX11_against_X11_planOnce
set_option maxRecDepth 20000 in
theorem ggX11_against_X11_firstAgainst : GoodIn wsX11_against wsX11_firstAgainst := goodIn_r _ [144, 145, 13, 6, 146, 147, 148, 4, 149, 150, 151, 152, 34, 153, 154, 33, 35, 155, 156, 157, 17, 158, 73, 120, 121, 122, 123, 23, 24, 25, 159, 115, 108, 116, 160, 161, 162, 29, 163, 130, 131, 89, 132, 97, 88, 90, 164, 92, 93, 94, 95, 96, 32, 165, 166, 167, 168, 169, 170, 171, 172, 173, 174, 175, 176, 177, 178, 179, 180, 181, 182, 183, 184, 185, 186, 187, 188, 189, 190, 191, 192, 193, 194, 195, 196, 197, 198, 199, 200] (by decide +kernel) (by decide +kernel)
set_option maxRecDepth 20000 in
theorem gX11_against_X11_firstAgainst : GoodIn wsX11_against (wsV RX11 265 RX11 yX11_firstAgainst wsX11_firstAgainst) := goodIn_app (goodIn_of _ (by decide +kernel)) ggX11_against_X11_firstAgainst
theorem dX11_against_0 : decode cX11_against 0 = .ok (.aload_n 0, 1) := by decide +kernel
theorem dX11_against_1 : decode cX11_against 1 = .ok (.iload_n 1, 1) := by decide +kernel
theorem dX11_against_2 : decode cX11_against 2 = .ok (.invokevirtual 143, 3) := by decide +kernel
theorem dX11_against_5 : decode cX11_against 5 = .ok (.ifCond .ne 5, 3) := by decide +kernel
theorem dX11_against_8 : decode cX11_against 8 = .ok (.iconst (-1), 1) := by decide +kernel
theorem dX11_against_9 : decode cX11_against 9 = .ok (.ireturn, 1) := by decide +kernel
theorem dX11_against_10 : decode cX11_against 10 = .ok (.iload_n 2, 1) := by decide +kernel
theorem dX11_against_11 : decode cX11_against 11 = .ok (.ifCond .lt 8, 3) := by decide +kernel
theorem dX11_against_14 : decode cX11_against 14 = .ok (.iload_n 2, 1) := by decide +kernel
theorem dX11_against_15 : decode cX11_against 15 = .ok (.iconst 4, 1) := by decide +kernel
theorem dX11_against_16 : decode cX11_against 16 = .ok (.if_icmp .le 6, 3) := by decide +kernel
theorem dX11_against_19 : decode cX11_against 19 = .ok (.bipush (-2), 2) := by decide +kernel
theorem dX11_against_21 : decode cX11_against 21 = .ok (.ireturn, 1) := by decide +kernel
theorem dX11_against_22 : decode cX11_against 22 = .ok (.aload_n 0, 1) := by decide +kernel
theorem dX11_against_23 : decode cX11_against 23 = .ok (.invokevirtual 253, 3) := by decide +kernel
theorem dX11_against_26 : decode cX11_against 26 = .ok (.aload_n 0, 1) := by decide +kernel
theorem dX11_against_27 : decode cX11_against 27 = .ok (.iload_n 1, 1) := by decide +kernel
theorem dX11_against_28 : decode cX11_against 28 = .ok (.iload_n 2, 1) := by decide +kernel
theorem dX11_against_29 : decode cX11_against 29 = .ok (.invokevirtual 265, 3) := by decide +kernel
theorem dX11_against_32 : decode cX11_against 32 = .ok (.ireturn, 1) := by decide +kernel
set_option maxRecDepth 20000 in
theorem ggX11_without_X4_copy : GoodIn wsX11_without wsX4_copy := goodIn_r _ [10, 11, 12, 13, 14, 15, 16, 17, 18, 19, 20, 21, 22, 23, 24, 25, 26, 27, 28, 29, 30, 9, 31, 32, 33, 34, 35, 36, 37, 38, 39, 40, 41, 42, 43, 44, 45, 46, 47, 48, 49, 50, 51, 52, 53, 54, 55, 56, 57, 58, 59, 60, 61, 62, 63, 64, 65, 66, 67, 68, 196, 197, 198, 199, 200, 201, 202, 203, 204, 205, 206, 207, 208, 209] (by decide +kernel) (by decide +kernel)
set_option maxRecDepth 20000 in
theorem gX11_without_X4_copy : GoodIn wsX11_without (wsV RX11 115 RX4 yX4_copy wsX4_copy) := goodIn_app (goodIn_of _ (by decide +kernel)) ggX11_without_X4_copy
set_option maxRecDepth 20000 in
theorem ggX11_without_X6_solve : GoodIn wsX11_without wsX6_solve := goodIn_r _ [73, 74, 75, 76, 77, 78, 79, 72, 80, 81, 82, 83, 9, 84, 26, 55, 56, 40, 57, 85, 86, 87, 88, 89, 90, 91, 92, 93, 94, 95, 11, 96, 97, 98, 99, 25, 100, 101, 102, 103, 104, 105, 106, 107, 108, 32, 109, 110, 111, 112, 113, 114, 115, 116, 117, 118, 119, 120, 121, 122, 123, 124, 125, 126, 127, 128, 23, 129, 130, 131, 132, 133, 67, 134, 135, 136, 137, 138, 18, 12, 139, 140, 141, 142, 143, 24, 58, 59, 60, 144, 145, 146, 147, 148, 149, 150, 151, 152, 153, 154, 155, 156, 157, 158, 46, 47, 48, 159, 160, 161, 162, 21, 22, 65, 66, 68, 163, 164, 165, 166, 167, 13, 20, 168, 196, 197, 198, 199, 200, 201, 202, 203, 204, 205, 206, 207, 208, 209, 210, 211, 212, 213, 214] (by decide +kernel) (by decide +kernel)
set_option maxRecDepth 20000 in
theorem gX11_without_X6_solve : GoodIn wsX11_without (wsV RX11 268 RX6 yX6_solve wsX6_solve) := goodIn_app (goodIn_of _ (by decide +kernel)) ggX11_without_X6_solve
set_option maxRecDepth 20000 in
theorem ggX11_without_X6_leastFrom : GoodIn wsX11_without wsX6_leastFrom := goodIn_r _ [172, 76, 158, 46, 40, 47, 48, 78, 79, 72, 80, 210, 211, 212, 213, 214] (by decide +kernel) (by decide +kernel)
set_option maxRecDepth 20000 in
theorem gX11_without_X6_leastFrom : GoodIn wsX11_without (wsV RX11 256 RX6 yX6_leastFrom wsX6_leastFrom) := goodIn_app (goodIn_of _ (by decide +kernel)) ggX11_without_X6_leastFrom
set_option maxRecDepth 20000 in
theorem ggX11_without_X6_scale : GoodIn wsX11_without wsX6_scale := goodIn_r _ [123, 124, 75, 210, 211, 212, 213, 214] (by decide +kernel) (by decide +kernel)
set_option maxRecDepth 20000 in
theorem gX11_without_X6_scale : GoodIn wsX11_without (wsV RX11 260 RX6 yX6_scale wsX6_scale) := goodIn_app (goodIn_of _ (by decide +kernel)) ggX11_without_X6_scale
set_option maxRecDepth 20000 in
theorem ggX11_without_X11_told : GoodIn wsX11_without wsX11_told := goodIn_r _ [177, 178] (by decide +kernel) (by decide +kernel)
set_option maxRecDepth 20000 in
theorem gX11_without_X11_told : GoodIn wsX11_without (va_wsS RX11 212 yX11_told wsX11_told) := goodIn_app (goodIn_of _ (by decide +kernel)) ggX11_without_X11_told
theorem dX11_without_0 : decode cX11_without 0 = .ok (.iload_n 1, 1) := by decide +kernel
theorem dX11_without_1 : decode cX11_without 1 = .ok (.ifCond .lt 9, 3) := by decide +kernel
theorem dX11_without_4 : decode cX11_without 4 = .ok (.iload_n 1, 1) := by decide +kernel
theorem dX11_without_5 : decode cX11_without 5 = .ok (.bipush 15, 2) := by decide +kernel
theorem dX11_without_7 : decode cX11_without 7 = .ok (.if_icmp .le 7, 3) := by decide +kernel
theorem dX11_without_10 : decode cX11_without 10 = .ok (.ldc2_w 205, 3) := by decide +kernel
theorem dX11_without_13 : decode cX11_without 13 = .ok (.lreturn, 1) := by decide +kernel
theorem dX11_without_14 : decode cX11_without 14 = .ok (.aload_n 0, 1) := by decide +kernel
theorem dX11_without_15 : decode cX11_without 15 = .ok (.getfield 90, 3) := by decide +kernel
theorem dX11_without_18 : decode cX11_without 18 = .ok (.iload_n 1, 1) := by decide +kernel
theorem dX11_without_19 : decode cX11_without 19 = .ok (.if_icmp .eq 31, 3) := by decide +kernel
theorem dX11_without_22 : decode cX11_without 22 = .ok (.aload_n 0, 1) := by decide +kernel
theorem dX11_without_23 : decode cX11_without 23 = .ok (.getfield 42, 3) := by decide +kernel
theorem dX11_without_26 : decode cX11_without 26 = .ok (.aload_n 0, 1) := by decide +kernel
theorem dX11_without_27 : decode cX11_without 27 = .ok (.getfield 39, 3) := by decide +kernel
theorem dX11_without_30 : decode cX11_without 30 = .ok (.iload_n 1, 1) := by decide +kernel
theorem dX11_without_31 : decode cX11_without 31 = .ok (.invokevirtual 115, 3) := by decide +kernel
theorem dX11_without_34 : decode cX11_without 34 = .ok (.aload_n 0, 1) := by decide +kernel
theorem dX11_without_35 : decode cX11_without 35 = .ok (.getfield 63, 3) := by decide +kernel
theorem dX11_without_38 : decode cX11_without 38 = .ok (.aload_n 0, 1) := by decide +kernel
theorem dX11_without_39 : decode cX11_without 39 = .ok (.getfield 42, 3) := by decide +kernel
theorem dX11_without_42 : decode cX11_without 42 = .ok (.invokevirtual 268, 3) := by decide +kernel
theorem dX11_without_45 : decode cX11_without 45 = .ok (.aload_n 0, 1) := by decide +kernel
theorem dX11_without_46 : decode cX11_without 46 = .ok (.iload_n 1, 1) := by decide +kernel
theorem dX11_without_47 : decode cX11_without 47 = .ok (.putfield 90, 3) := by decide +kernel
theorem dX11_without_50 : decode cX11_without 50 = .ok (.aload_n 0, 1) := by decide +kernel
theorem dX11_without_51 : decode cX11_without 51 = .ok (.getfield 63, 3) := by decide +kernel
theorem dX11_without_54 : decode cX11_without 54 = .ok (.iconst 0, 1) := by decide +kernel
theorem dX11_without_55 : decode cX11_without 55 = .ok (.iconst 0, 1) := by decide +kernel
theorem dX11_without_56 : decode cX11_without 56 = .ok (.iconst 0, 1) := by decide +kernel
theorem dX11_without_57 : decode cX11_without 57 = .ok (.invokevirtual 256, 3) := by decide +kernel
theorem dX11_without_60 : decode cX11_without 60 = .ok (.aload_n 0, 1) := by decide +kernel
theorem dX11_without_61 : decode cX11_without 61 = .ok (.getfield 63, 3) := by decide +kernel
theorem dX11_without_64 : decode cX11_without 64 = .ok (.iconst 0, 1) := by decide +kernel
theorem dX11_without_65 : decode cX11_without 65 = .ok (.invokevirtual 260, 3) := by decide +kernel
theorem dX11_without_68 : decode cX11_without 68 = .ok (.iload_n 2, 1) := by decide +kernel
theorem dX11_without_69 : decode cX11_without 69 = .ok (.invokestatic 212, 3) := by decide +kernel
theorem dX11_without_72 : decode cX11_without 72 = .ok (.lreturn, 1) := by decide +kernel
set_option maxRecDepth 20000 in
theorem ggX11_act_X9_mayAct : GoodIn wsX11_act wsX9_mayAct := goodIn_r _ [7, 8, 9, 10, 11, 12, 13, 14, 15, 16, 17, 18, 19, 20, 21, 22, 23, 24, 25, 26, 27, 28, 29, 30, 31, 32, 33, 34, 35, 36, 37, 38, 39, 40, 41, 42, 43, 44, 45, 46, 47, 48, 49, 50, 51, 52, 53, 54, 55, 56, 57, 58, 59, 60, 61, 62, 63, 64, 65, 66, 67, 68, 69, 70, 118, 119, 120, 121, 122, 123, 124, 125, 126, 127, 128, 129, 130, 131, 132, 133, 134, 135, 136, 137] (by decide +kernel) (by decide +kernel)
set_option maxRecDepth 20000 in
theorem gX11_act_X9_mayAct : GoodIn wsX11_act (wsV RX11 272 RX9 yX9_mayAct wsX9_mayAct) := goodIn_app (goodIn_of _ (by decide +kernel)) ggX11_act_X9_mayAct
set_option maxRecDepth 20000 in
theorem ggX11_act_X9_passWeek : GoodIn wsX11_act wsX9_passWeek := goodIn_r _ [74, 11, 75, 8, 9, 76, 77, 78, 79, 19, 80, 81, 18, 20, 82, 31, 28, 32, 33, 34, 35, 36, 83, 38, 39, 84, 48, 49, 85, 59, 60, 86, 87, 88, 15, 89, 90, 91, 92, 93, 94, 25, 54, 70, 47, 26, 27, 29, 95, 96, 97, 98, 99, 100, 17, 118, 119, 120, 121, 122, 123, 124, 125, 126, 127, 128, 129, 130, 131, 132, 133, 134, 135, 136, 137] (by decide +kernel) (by decide +kernel)
set_option maxRecDepth 20000 in
theorem gX11_act_X9_passWeek : GoodIn wsX11_act (wsV RX11 276 RX9 yX9_passWeek wsX9_passWeek) := goodIn_app (goodIn_of _ (by decide +kernel)) ggX11_act_X9_passWeek
theorem dX11_act_0 : decode cX11_act 0 = .ok (.iload_n 1, 1) := by decide +kernel
theorem dX11_act_1 : decode cX11_act 1 = .ok (.ifCond .ge 6, 3) := by decide +kernel
theorem dX11_act_4 : decode cX11_act 4 = .ok (.bipush (-2), 2) := by decide +kernel
theorem dX11_act_6 : decode cX11_act 6 = .ok (.ireturn, 1) := by decide +kernel
theorem dX11_act_7 : decode cX11_act 7 = .ok (.aload_n 0, 1) := by decide +kernel
theorem dX11_act_8 : decode cX11_act 8 = .ok (.getfield 69, 3) := by decide +kernel
theorem dX11_act_11 : decode cX11_act 11 = .ok (.aload_n 0, 1) := by decide +kernel
theorem dX11_act_12 : decode cX11_act 12 = .ok (.getfield 39, 3) := by decide +kernel
theorem dX11_act_15 : decode cX11_act 15 = .ok (.iload_n 1, 1) := by decide +kernel
theorem dX11_act_16 : decode cX11_act 16 = .ok (.invokevirtual 272, 3) := by decide +kernel
theorem dX11_act_19 : decode cX11_act 19 = .ok (.ifCond .ne 6, 3) := by decide +kernel
theorem dX11_act_22 : decode cX11_act 22 = .ok (.bipush (-3), 2) := by decide +kernel
theorem dX11_act_24 : decode cX11_act 24 = .ok (.ireturn, 1) := by decide +kernel
theorem dX11_act_25 : decode cX11_act 25 = .ok (.aload_n 0, 1) := by decide +kernel
theorem dX11_act_26 : decode cX11_act 26 = .ok (.getfield 69, 3) := by decide +kernel
theorem dX11_act_29 : decode cX11_act 29 = .ok (.aload_n 0, 1) := by decide +kernel
theorem dX11_act_30 : decode cX11_act 30 = .ok (.getfield 39, 3) := by decide +kernel
theorem dX11_act_33 : decode cX11_act 33 = .ok (.iload_n 1, 1) := by decide +kernel
theorem dX11_act_34 : decode cX11_act 34 = .ok (.invokevirtual 276, 3) := by decide +kernel
theorem dX11_act_37 : decode cX11_act 37 = .ok (.ireturn, 1) := by decide +kernel
set_option maxRecDepth 20000 in
theorem ggX11_gone_X3_areLeavers : GoodIn wsX11_gone wsX3_areLeavers := goodIn_r _ [7] (by decide +kernel) (by decide +kernel)
set_option maxRecDepth 20000 in
theorem gX11_gone_X3_areLeavers : GoodIn wsX11_gone (va_wsS RX11 280 yX3_areLeavers wsX3_areLeavers) := goodIn_app (goodIn_of _ (by decide +kernel)) ggX11_gone_X3_areLeavers
set_option maxRecDepth 20000 in
theorem ggX11_gone_X9_mayLeave : GoodIn wsX11_gone wsX9_mayLeave := goodIn_r _ [12, 13, 14, 15, 16, 6, 17, 57, 58, 59, 60, 61, 62] (by decide +kernel) (by decide +kernel)
set_option maxRecDepth 20000 in
theorem gX11_gone_X9_mayLeave : GoodIn wsX11_gone (wsV RX11 285 RX9 yX9_mayLeave wsX9_mayLeave) := goodIn_app (goodIn_of _ (by decide +kernel)) ggX11_gone_X9_mayLeave
set_option maxRecDepth 20000 in
theorem ggX11_gone_X9_passSunday : GoodIn wsX11_gone wsX9_passSunday := goodIn_r _ [21, 14, 22, 23, 13, 24, 25, 26, 27, 28, 6, 29, 30, 31, 32, 33, 34, 35, 36, 37, 38, 57, 58, 59, 60, 61, 62, 63, 64, 65, 66, 67, 68, 69, 70, 71, 72, 73, 74, 75, 76] (by decide +kernel) (by decide +kernel)
set_option maxRecDepth 20000 in
theorem gX11_gone_X9_passSunday : GoodIn wsX11_gone (wsV RX11 288 RX9 yX9_passSunday wsX9_passSunday) := goodIn_app (goodIn_of _ (by decide +kernel)) ggX11_gone_X9_passSunday
set_option maxRecDepth 20000 in
theorem ggX11_gone_X3_total : GoodIn wsX11_gone wsX3_total := goodIn_r _ [38] (by decide +kernel) (by decide +kernel)
set_option maxRecDepth 20000 in
theorem gX11_gone_X3_total : GoodIn wsX11_gone (va_wsS RX11 294 yX3_total wsX3_total) := goodIn_app (goodIn_of _ (by decide +kernel)) ggX11_gone_X3_total
theorem dX11_gone_0 : decode cX11_gone 0 = .ok (.iload_n 1, 1) := by decide +kernel
theorem dX11_gone_1 : decode cX11_gone 1 = .ok (.invokestatic 280, 3) := by decide +kernel
theorem dX11_gone_4 : decode cX11_gone 4 = .ok (.ifCond .ne 6, 3) := by decide +kernel
theorem dX11_gone_7 : decode cX11_gone 7 = .ok (.bipush (-2), 2) := by decide +kernel
theorem dX11_gone_9 : decode cX11_gone 9 = .ok (.ireturn, 1) := by decide +kernel
theorem dX11_gone_10 : decode cX11_gone 10 = .ok (.aload_n 0, 1) := by decide +kernel
theorem dX11_gone_11 : decode cX11_gone 11 = .ok (.getfield 69, 3) := by decide +kernel
theorem dX11_gone_14 : decode cX11_gone 14 = .ok (.iload_n 1, 1) := by decide +kernel
theorem dX11_gone_15 : decode cX11_gone 15 = .ok (.invokevirtual 285, 3) := by decide +kernel
theorem dX11_gone_18 : decode cX11_gone 18 = .ok (.ifCond .ne 6, 3) := by decide +kernel
theorem dX11_gone_21 : decode cX11_gone 21 = .ok (.bipush (-3), 2) := by decide +kernel
theorem dX11_gone_23 : decode cX11_gone 23 = .ok (.ireturn, 1) := by decide +kernel
theorem dX11_gone_24 : decode cX11_gone 24 = .ok (.aload_n 0, 1) := by decide +kernel
theorem dX11_gone_25 : decode cX11_gone 25 = .ok (.getfield 69, 3) := by decide +kernel
theorem dX11_gone_28 : decode cX11_gone 28 = .ok (.aload_n 0, 1) := by decide +kernel
theorem dX11_gone_29 : decode cX11_gone 29 = .ok (.getfield 39, 3) := by decide +kernel
theorem dX11_gone_32 : decode cX11_gone 32 = .ok (.iload_n 1, 1) := by decide +kernel
theorem dX11_gone_33 : decode cX11_gone 33 = .ok (.invokevirtual 288, 3) := by decide +kernel
theorem dX11_gone_36 : decode cX11_gone 36 = .ok (.aload_n 0, 1) := by decide +kernel
theorem dX11_gone_37 : decode cX11_gone 37 = .ok (.getfield 69, 3) := by decide +kernel
theorem dX11_gone_40 : decode cX11_gone 40 = .ok (.getfield 291, 3) := by decide +kernel
theorem dX11_gone_43 : decode cX11_gone 43 = .ok (.invokestatic 294, 3) := by decide +kernel
theorem dX11_gone_46 : decode cX11_gone 46 = .ok (.ireturn, 1) := by decide +kernel
theorem dX11_live_0 : decode cX11_live 0 = .ok (.iload_n 1, 1) := by decide +kernel
theorem dX11_live_1 : decode cX11_live 1 = .ok (.tableswitch 83 0 4 #[35, 43, 51, 59, 75], 35) := by decide +kernel
theorem dX11_live_36 : decode cX11_live 36 = .ok (.aload_n 0, 1) := by decide +kernel
theorem dX11_live_37 : decode cX11_live 37 = .ok (.getfield 69, 3) := by decide +kernel
theorem dX11_live_40 : decode cX11_live 40 = .ok (.getfield 297, 3) := by decide +kernel
theorem dX11_live_43 : decode cX11_live 43 = .ok (.ireturn, 1) := by decide +kernel
theorem dX11_live_44 : decode cX11_live 44 = .ok (.aload_n 0, 1) := by decide +kernel
theorem dX11_live_45 : decode cX11_live 45 = .ok (.getfield 69, 3) := by decide +kernel
theorem dX11_live_48 : decode cX11_live 48 = .ok (.getfield 291, 3) := by decide +kernel
theorem dX11_live_51 : decode cX11_live 51 = .ok (.ireturn, 1) := by decide +kernel
theorem dX11_live_52 : decode cX11_live 52 = .ok (.aload_n 0, 1) := by decide +kernel
theorem dX11_live_53 : decode cX11_live 53 = .ok (.getfield 69, 3) := by decide +kernel
theorem dX11_live_56 : decode cX11_live 56 = .ok (.getfield 300, 3) := by decide +kernel
theorem dX11_live_59 : decode cX11_live 59 = .ok (.ireturn, 1) := by decide +kernel
theorem dX11_live_60 : decode cX11_live 60 = .ok (.aload_n 0, 1) := by decide +kernel
theorem dX11_live_61 : decode cX11_live 61 = .ok (.getfield 69, 3) := by decide +kernel
theorem dX11_live_64 : decode cX11_live 64 = .ok (.getfield 303, 3) := by decide +kernel
theorem dX11_live_67 : decode cX11_live 67 = .ok (.ifCond .eq 7, 3) := by decide +kernel
theorem dX11_live_70 : decode cX11_live 70 = .ok (.iconst 1, 1) := by decide +kernel
theorem dX11_live_71 : decode cX11_live 71 = .ok (.goto 4, 3) := by decide +kernel
theorem dX11_live_74 : decode cX11_live 74 = .ok (.iconst 0, 1) := by decide +kernel
theorem dX11_live_75 : decode cX11_live 75 = .ok (.ireturn, 1) := by decide +kernel
theorem dX11_live_76 : decode cX11_live 76 = .ok (.aload_n 0, 1) := by decide +kernel
theorem dX11_live_77 : decode cX11_live 77 = .ok (.getfield 69, 3) := by decide +kernel
theorem dX11_live_80 : decode cX11_live 80 = .ok (.getfield 306, 3) := by decide +kernel
theorem dX11_live_83 : decode cX11_live 83 = .ok (.ireturn, 1) := by decide +kernel
theorem dX11_live_84 : decode cX11_live 84 = .ok (.bipush (-2), 2) := by decide +kernel
theorem dX11_live_86 : decode cX11_live 86 = .ok (.ireturn, 1) := by decide +kernel
set_option maxRecDepth 20000 in
theorem ggX11_keep_X11_isSlot : GoodIn wsX11_keep wsX11_isSlot := goodIn_r _ [7] (by decide +kernel) (by decide +kernel)
set_option maxRecDepth 20000 in
theorem gX11_keep_X11_isSlot : GoodIn wsX11_keep (wsV RX11 308 RX11 yX11_isSlot wsX11_isSlot) := goodIn_app (goodIn_of _ (by decide +kernel)) ggX11_keep_X11_isSlot
set_option maxRecDepth 20000 in
theorem ggX11_keep_X11_keptIn : GoodIn wsX11_keep wsX11_keptIn := goodIn_r _ [11, 12, 13, 25, 26, 27, 28, 29, 30, 31, 32, 33, 34, 35, 36, 37, 38, 39, 40, 41] (by decide +kernel) (by decide +kernel)
set_option maxRecDepth 20000 in
theorem gX11_keep_X11_keptIn : GoodIn wsX11_keep (wsV RX11 311 RX11 yX11_keptIn wsX11_keptIn) := goodIn_app (goodIn_of _ (by decide +kernel)) ggX11_keep_X11_keptIn
set_option maxRecDepth 20000 in
theorem ggX11_keep_X9_copy : GoodIn wsX11_keep wsX9_copy := goodIn_r _ [18, 19, 20, 21, 22, 23, 24, 42, 43, 44, 45, 46, 47] (by decide +kernel) (by decide +kernel)
set_option maxRecDepth 20000 in
theorem gX11_keep_X9_copy : GoodIn wsX11_keep (wsV RX11 315 RX9 yX9_copy wsX9_copy) := goodIn_app (goodIn_of _ (by decide +kernel)) ggX11_keep_X9_copy
theorem dX11_keep_0 : decode cX11_keep 0 = .ok (.aload_n 0, 1) := by decide +kernel
theorem dX11_keep_1 : decode cX11_keep 1 = .ok (.iload_n 1, 1) := by decide +kernel
theorem dX11_keep_2 : decode cX11_keep 2 = .ok (.invokevirtual 308, 3) := by decide +kernel
theorem dX11_keep_5 : decode cX11_keep 5 = .ok (.ifCond .ne 5, 3) := by decide +kernel
theorem dX11_keep_8 : decode cX11_keep 8 = .ok (.iconst (-1), 1) := by decide +kernel
theorem dX11_keep_9 : decode cX11_keep 9 = .ok (.ireturn, 1) := by decide +kernel
theorem dX11_keep_10 : decode cX11_keep 10 = .ok (.aload_n 0, 1) := by decide +kernel
theorem dX11_keep_11 : decode cX11_keep 11 = .ok (.getfield 79, 3) := by decide +kernel
theorem dX11_keep_14 : decode cX11_keep 14 = .ok (.iload_n 1, 1) := by decide +kernel
theorem dX11_keep_15 : decode cX11_keep 15 = .ok (.baload, 1) := by decide +kernel
theorem dX11_keep_16 : decode cX11_keep 16 = .ok (.ifCond .eq 7, 3) := by decide +kernel
theorem dX11_keep_19 : decode cX11_keep 19 = .ok (.iconst 0, 1) := by decide +kernel
theorem dX11_keep_20 : decode cX11_keep 20 = .ok (.goto 4, 3) := by decide +kernel
theorem dX11_keep_23 : decode cX11_keep 23 = .ok (.iconst 1, 1) := by decide +kernel
theorem dX11_keep_24 : decode cX11_keep 24 = .ok (.istore_n 2, 1) := by decide +kernel
theorem dX11_keep_25 : decode cX11_keep 25 = .ok (.aload_n 0, 1) := by decide +kernel
theorem dX11_keep_26 : decode cX11_keep 26 = .ok (.iload_n 1, 1) := by decide +kernel
theorem dX11_keep_27 : decode cX11_keep 27 = .ok (.invokevirtual 311, 3) := by decide +kernel
theorem dX11_keep_30 : decode cX11_keep 30 = .ok (.aload_n 0, 1) := by decide +kernel
theorem dX11_keep_31 : decode cX11_keep 31 = .ok (.getfield 69, 3) := by decide +kernel
theorem dX11_keep_34 : decode cX11_keep 34 = .ok (.invokevirtual 315, 3) := by decide +kernel
theorem dX11_keep_37 : decode cX11_keep 37 = .ok (.aload_n 0, 1) := by decide +kernel
theorem dX11_keep_38 : decode cX11_keep 38 = .ok (.getfield 79, 3) := by decide +kernel
theorem dX11_keep_41 : decode cX11_keep 41 = .ok (.iload_n 1, 1) := by decide +kernel
theorem dX11_keep_42 : decode cX11_keep 42 = .ok (.iconst 1, 1) := by decide +kernel
theorem dX11_keep_43 : decode cX11_keep 43 = .ok (.bastore, 1) := by decide +kernel
theorem dX11_keep_44 : decode cX11_keep 44 = .ok (.iload_n 2, 1) := by decide +kernel
theorem dX11_keep_45 : decode cX11_keep 45 = .ok (.ireturn, 1) := by decide +kernel
set_option maxRecDepth 20000 in
theorem ggX11_again_X11_isSlot : GoodIn wsX11_again wsX11_isSlot := goodIn_r _ [8] (by decide +kernel) (by decide +kernel)
set_option maxRecDepth 20000 in
theorem gX11_again_X11_isSlot : GoodIn wsX11_again (wsV RX11 308 RX11 yX11_isSlot wsX11_isSlot) := goodIn_app (goodIn_of _ (by decide +kernel)) ggX11_again_X11_isSlot
set_option maxRecDepth 20000 in
theorem ggX11_again_X11_keptIn : GoodIn wsX11_again wsX11_keptIn := goodIn_r _ [12, 13, 14, 26, 27, 28, 29, 30, 31, 32, 33, 34, 35, 36, 37, 38, 39, 40, 41, 42] (by decide +kernel) (by decide +kernel)
set_option maxRecDepth 20000 in
theorem gX11_again_X11_keptIn : GoodIn wsX11_again (wsV RX11 311 RX11 yX11_keptIn wsX11_keptIn) := goodIn_app (goodIn_of _ (by decide +kernel)) ggX11_again_X11_keptIn
set_option maxRecDepth 20000 in
theorem ggX11_again_X9_copy : GoodIn wsX11_again wsX9_copy := goodIn_r _ [19, 20, 21, 22, 23, 24, 25, 43, 44, 45, 46, 47, 48] (by decide +kernel) (by decide +kernel)
set_option maxRecDepth 20000 in
theorem gX11_again_X9_copy : GoodIn wsX11_again (wsV RX11 315 RX9 yX9_copy wsX9_copy) := goodIn_app (goodIn_of _ (by decide +kernel)) ggX11_again_X9_copy
theorem dX11_again_0 : decode cX11_again 0 = .ok (.aload_n 0, 1) := by decide +kernel
theorem dX11_again_1 : decode cX11_again 1 = .ok (.iload_n 1, 1) := by decide +kernel
theorem dX11_again_2 : decode cX11_again 2 = .ok (.invokevirtual 308, 3) := by decide +kernel
theorem dX11_again_5 : decode cX11_again 5 = .ok (.ifCond .ne 5, 3) := by decide +kernel
theorem dX11_again_8 : decode cX11_again 8 = .ok (.iconst (-1), 1) := by decide +kernel
theorem dX11_again_9 : decode cX11_again 9 = .ok (.ireturn, 1) := by decide +kernel
theorem dX11_again_10 : decode cX11_again 10 = .ok (.aload_n 0, 1) := by decide +kernel
theorem dX11_again_11 : decode cX11_again 11 = .ok (.getfield 79, 3) := by decide +kernel
theorem dX11_again_14 : decode cX11_again 14 = .ok (.iload_n 1, 1) := by decide +kernel
theorem dX11_again_15 : decode cX11_again 15 = .ok (.baload, 1) := by decide +kernel
theorem dX11_again_16 : decode cX11_again 16 = .ok (.ifCond .ne 6, 3) := by decide +kernel
theorem dX11_again_19 : decode cX11_again 19 = .ok (.bipush (-3), 2) := by decide +kernel
theorem dX11_again_21 : decode cX11_again 21 = .ok (.ireturn, 1) := by decide +kernel
theorem dX11_again_22 : decode cX11_again 22 = .ok (.aload_n 0, 1) := by decide +kernel
theorem dX11_again_23 : decode cX11_again 23 = .ok (.getfield 69, 3) := by decide +kernel
theorem dX11_again_26 : decode cX11_again 26 = .ok (.aload_n 0, 1) := by decide +kernel
theorem dX11_again_27 : decode cX11_again 27 = .ok (.iload_n 1, 1) := by decide +kernel
theorem dX11_again_28 : decode cX11_again 28 = .ok (.invokevirtual 311, 3) := by decide +kernel
theorem dX11_again_31 : decode cX11_again 31 = .ok (.invokevirtual 315, 3) := by decide +kernel
theorem dX11_again_34 : decode cX11_again 34 = .ok (.aload_n 0, 1) := by decide +kernel
theorem dX11_again_35 : decode cX11_again 35 = .ok (.getfield 69, 3) := by decide +kernel
theorem dX11_again_38 : decode cX11_again 38 = .ok (.getfield 297, 3) := by decide +kernel
theorem dX11_again_41 : decode cX11_again 41 = .ok (.ireturn, 1) := by decide +kernel
set_option maxRecDepth 20000 in
theorem ggX11_tell_X3_areLeavers : GoodIn wsX11_tell wsX3_areLeavers := goodIn_r _ [6] (by decide +kernel) (by decide +kernel)
set_option maxRecDepth 20000 in
theorem gX11_tell_X3_areLeavers : GoodIn wsX11_tell (va_wsS RX11 280 yX3_areLeavers wsX3_areLeavers) := goodIn_app (goodIn_of _ (by decide +kernel)) ggX11_tell_X3_areLeavers
set_option maxRecDepth 20000 in
theorem ggX11_tell_X7_append : GoodIn wsX11_tell wsX7_append := goodIn_r _ [11, 12, 13, 14, 32, 33, 34, 35, 36, 37, 38, 39, 40] (by decide +kernel) (by decide +kernel)
set_option maxRecDepth 20000 in
theorem gX11_tell_X7_append : GoodIn wsX11_tell (wsV RX11 319 RX7 yX7_append wsX7_append) := goodIn_app (goodIn_of _ (by decide +kernel)) ggX11_tell_X7_append
theorem dX11_tell_0 : decode cX11_tell 0 = .ok (.iload_n 1, 1) := by decide +kernel
theorem dX11_tell_1 : decode cX11_tell 1 = .ok (.ifCond .lt 17, 3) := by decide +kernel
theorem dX11_tell_4 : decode cX11_tell 4 = .ok (.iload_n 1, 1) := by decide +kernel
theorem dX11_tell_5 : decode cX11_tell 5 = .ok (.sipush 9999, 3) := by decide +kernel
theorem dX11_tell_8 : decode cX11_tell 8 = .ok (.if_icmp .gt 10, 3) := by decide +kernel
theorem dX11_tell_11 : decode cX11_tell 11 = .ok (.iload_n 2, 1) := by decide +kernel
theorem dX11_tell_12 : decode cX11_tell 12 = .ok (.invokestatic 280, 3) := by decide +kernel
theorem dX11_tell_15 : decode cX11_tell 15 = .ok (.ifCond .ne 6, 3) := by decide +kernel
theorem dX11_tell_18 : decode cX11_tell 18 = .ok (.bipush (-2), 2) := by decide +kernel
theorem dX11_tell_20 : decode cX11_tell 20 = .ok (.ireturn, 1) := by decide +kernel
theorem dX11_tell_21 : decode cX11_tell 21 = .ok (.aload_n 0, 1) := by decide +kernel
theorem dX11_tell_22 : decode cX11_tell 22 = .ok (.getfield 86, 3) := by decide +kernel
theorem dX11_tell_25 : decode cX11_tell 25 = .ok (.getfield 318, 3) := by decide +kernel
theorem dX11_tell_28 : decode cX11_tell 28 = .ok (.iconst 5, 1) := by decide +kernel
theorem dX11_tell_29 : decode cX11_tell 29 = .ok (.if_icmp .lt 6, 3) := by decide +kernel
theorem dX11_tell_32 : decode cX11_tell 32 = .ok (.bipush (-4), 2) := by decide +kernel
theorem dX11_tell_34 : decode cX11_tell 34 = .ok (.ireturn, 1) := by decide +kernel
theorem dX11_tell_35 : decode cX11_tell 35 = .ok (.aload_n 0, 1) := by decide +kernel
theorem dX11_tell_36 : decode cX11_tell 36 = .ok (.getfield 86, 3) := by decide +kernel
theorem dX11_tell_39 : decode cX11_tell 39 = .ok (.iload_n 1, 1) := by decide +kernel
theorem dX11_tell_40 : decode cX11_tell 40 = .ok (.iload_n 2, 1) := by decide +kernel
theorem dX11_tell_41 : decode cX11_tell 41 = .ok (.invokevirtual 319, 3) := by decide +kernel
theorem dX11_tell_44 : decode cX11_tell 44 = .ok (.aload_n 0, 1) := by decide +kernel
theorem dX11_tell_45 : decode cX11_tell 45 = .ok (.getfield 86, 3) := by decide +kernel
theorem dX11_tell_48 : decode cX11_tell 48 = .ok (.getfield 318, 3) := by decide +kernel
theorem dX11_tell_51 : decode cX11_tell 51 = .ok (.ireturn, 1) := by decide +kernel
theorem dX11_untell_0 : decode cX11_untell 0 = .ok (.aload_n 0, 1) := by decide +kernel
theorem dX11_untell_1 : decode cX11_untell 1 = .ok (.getfield 86, 3) := by decide +kernel
theorem dX11_untell_4 : decode cX11_untell 4 = .ok (.getfield 318, 3) := by decide +kernel
theorem dX11_untell_7 : decode cX11_untell 7 = .ok (.istore_n 1, 1) := by decide +kernel
theorem dX11_untell_8 : decode cX11_untell 8 = .ok (.aload_n 0, 1) := by decide +kernel
theorem dX11_untell_9 : decode cX11_untell 9 = .ok (.getfield 86, 3) := by decide +kernel
theorem dX11_untell_12 : decode cX11_untell 12 = .ok (.iconst 0, 1) := by decide +kernel
theorem dX11_untell_13 : decode cX11_untell 13 = .ok (.putfield 318, 3) := by decide +kernel
theorem dX11_untell_16 : decode cX11_untell 16 = .ok (.iload_n 1, 1) := by decide +kernel
theorem dX11_untell_17 : decode cX11_untell 17 = .ok (.ireturn, 1) := by decide +kernel
set_option maxRecDepth 20000 in
theorem ggX11_judge_X7_judgeBy : GoodIn wsX11_judge wsX7_judgeBy := goodIn_r _ [8, 9, 10, 11, 12, 13, 14, 15, 16, 17, 18, 19, 20, 21, 22, 23, 24, 25, 26, 27, 28, 29, 30, 31, 7, 32, 33, 34, 35, 36, 37, 38, 39, 40, 41, 42, 43, 44, 45, 46, 47, 48, 49, 50, 51, 52, 53, 54, 55, 56, 57, 58, 59, 60, 61, 62, 63, 64, 65, 66, 67, 68, 69, 70, 71, 72, 73, 74, 75, 76, 77, 78, 79, 80, 81, 82, 83, 84, 85, 86, 87, 88, 89, 90, 91, 92, 93, 94, 95, 96, 97, 98, 99, 100, 101, 102, 103, 104, 105, 106, 107, 108, 109, 110, 111, 112, 113, 114, 115, 116, 117, 118, 119, 120, 121, 122, 123, 124, 125, 126, 127, 128, 129, 130, 131, 132, 133, 134, 135, 136, 137, 138, 139, 140, 141, 142, 143, 144, 145, 146, 147, 148, 149, 150, 151, 152, 153, 154, 155, 156, 157, 158, 159, 160, 161, 179, 180, 181, 182, 183, 184, 185, 186, 187, 188, 189, 190, 191, 192, 193, 194, 195, 196, 197, 198, 199, 200, 201, 202, 203, 204, 205, 206, 207] (by decide +kernel) (by decide +kernel)
set_option maxRecDepth 20000 in
theorem gX11_judge_X7_judgeBy : GoodIn wsX11_judge (wsV RX11 321 RX7 yX7_judgeBy wsX7_judgeBy) := goodIn_app (goodIn_of _ (by decide +kernel)) ggX11_judge_X7_judgeBy
theorem dX11_judge_0 : decode cX11_judge 0 = .ok (.aload_n 0, 1) := by decide +kernel
theorem dX11_judge_1 : decode cX11_judge 1 = .ok (.getfield 86, 3) := by decide +kernel
theorem dX11_judge_4 : decode cX11_judge 4 = .ok (.aload_n 0, 1) := by decide +kernel
theorem dX11_judge_5 : decode cX11_judge 5 = .ok (.getfield 39, 3) := by decide +kernel
theorem dX11_judge_8 : decode cX11_judge 8 = .ok (.invokevirtual 321, 3) := by decide +kernel
theorem dX11_judge_11 : decode cX11_judge 11 = .ok (.aload_n 0, 1) := by decide +kernel
theorem dX11_judge_12 : decode cX11_judge 12 = .ok (.getfield 86, 3) := by decide +kernel
theorem dX11_judge_15 : decode cX11_judge 15 = .ok (.getfield 324, 3) := by decide +kernel
theorem dX11_judge_18 : decode cX11_judge 18 = .ok (.ireturn, 1) := by decide +kernel
set_option maxRecDepth 20000 in
theorem ggX11_paid_X7_judgeBy : GoodIn wsX11_paid wsX7_judgeBy := goodIn_r _ [10, 11, 12, 13, 14, 15, 16, 17, 18, 19, 20, 21, 22, 23, 24, 25, 26, 27, 28, 29, 30, 31, 32, 33, 9, 34, 35, 36, 37, 38, 39, 40, 41, 42, 43, 44, 45, 46, 47, 48, 49, 50, 51, 52, 53, 54, 55, 56, 57, 58, 59, 60, 61, 62, 63, 64, 65, 66, 67, 68, 69, 70, 71, 72, 73, 74, 75, 76, 77, 78, 79, 80, 81, 82, 83, 84, 85, 86, 87, 88, 89, 90, 91, 92, 93, 94, 95, 96, 97, 98, 99, 100, 101, 102, 103, 104, 105, 106, 107, 108, 109, 110, 111, 112, 113, 114, 115, 116, 117, 118, 119, 120, 121, 122, 123, 124, 125, 126, 127, 128, 129, 130, 131, 132, 133, 134, 135, 136, 137, 138, 139, 140, 141, 142, 143, 144, 145, 146, 147, 148, 149, 150, 151, 152, 153, 154, 155, 156, 157, 158, 159, 160, 161, 162, 163, 181, 182, 183, 184, 185, 186, 187, 188, 189, 190, 191, 192, 193, 194, 195, 196, 197, 198, 199, 200, 201, 202, 203, 204, 205, 206, 207, 208, 209] (by decide +kernel) (by decide +kernel)
set_option maxRecDepth 20000 in
theorem gX11_paid_X7_judgeBy : GoodIn wsX11_paid (wsV RX11 321 RX7 yX7_judgeBy wsX7_judgeBy) := goodIn_app (goodIn_of _ (by decide +kernel)) ggX11_paid_X7_judgeBy
theorem dX11_paid_0 : decode cX11_paid 0 = .ok (.aload_n 0, 1) := by decide +kernel
theorem dX11_paid_1 : decode cX11_paid 1 = .ok (.getfield 86, 3) := by decide +kernel
theorem dX11_paid_4 : decode cX11_paid 4 = .ok (.aload_n 0, 1) := by decide +kernel
theorem dX11_paid_5 : decode cX11_paid 5 = .ok (.getfield 39, 3) := by decide +kernel
theorem dX11_paid_8 : decode cX11_paid 8 = .ok (.invokevirtual 321, 3) := by decide +kernel
theorem dX11_paid_11 : decode cX11_paid 11 = .ok (.aload_n 0, 1) := by decide +kernel
theorem dX11_paid_12 : decode cX11_paid 12 = .ok (.getfield 86, 3) := by decide +kernel
theorem dX11_paid_15 : decode cX11_paid 15 = .ok (.getfield 324, 3) := by decide +kernel
theorem dX11_paid_18 : decode cX11_paid 18 = .ok (.bipush (-9), 2) := by decide +kernel
theorem dX11_paid_20 : decode cX11_paid 20 = .ok (.if_icmp .eq 8, 3) := by decide +kernel
theorem dX11_paid_23 : decode cX11_paid 23 = .ok (.bipush (-3), 2) := by decide +kernel
theorem dX11_paid_25 : decode cX11_paid 25 = .ok (.goto 13, 3) := by decide +kernel
theorem dX11_paid_28 : decode cX11_paid 28 = .ok (.aload_n 0, 1) := by decide +kernel
theorem dX11_paid_29 : decode cX11_paid 29 = .ok (.getfield 86, 3) := by decide +kernel
theorem dX11_paid_32 : decode cX11_paid 32 = .ok (.getfield 327, 3) := by decide +kernel
theorem dX11_paid_35 : decode cX11_paid 35 = .ok (.getfield 306, 3) := by decide +kernel
theorem dX11_paid_38 : decode cX11_paid 38 = .ok (.ireturn, 1) := by decide +kernel
set_option maxRecDepth 20000 in
theorem ggX11_luck_X7_judgeBy : GoodIn wsX11_luck wsX7_judgeBy := goodIn_r _ [11, 12, 13, 14, 15, 16, 17, 18, 19, 20, 21, 22, 23, 24, 25, 26, 27, 28, 29, 30, 31, 32, 33, 34, 10, 35, 36, 37, 38, 39, 40, 41, 42, 43, 44, 45, 46, 47, 48, 49, 50, 51, 52, 53, 54, 55, 56, 57, 58, 59, 60, 61, 62, 63, 64, 65, 66, 67, 68, 69, 70, 71, 72, 73, 74, 75, 76, 77, 78, 79, 80, 81, 82, 83, 84, 85, 86, 87, 88, 89, 90, 91, 92, 93, 94, 95, 96, 97, 98, 99, 100, 101, 102, 103, 104, 105, 106, 107, 108, 109, 110, 111, 112, 113, 114, 115, 116, 117, 118, 119, 120, 121, 122, 123, 124, 125, 126, 127, 128, 129, 130, 131, 132, 133, 134, 135, 136, 137, 138, 139, 140, 141, 142, 143, 144, 145, 146, 147, 148, 149, 150, 151, 152, 153, 154, 155, 156, 157, 158, 159, 160, 161, 162, 163, 164, 187, 188, 189, 190, 191, 192, 193, 194, 195, 196, 197, 198, 199, 200, 201, 202, 203, 204, 205, 206, 207, 208, 209, 210, 211, 212, 213, 214, 215] (by decide +kernel) (by decide +kernel)
set_option maxRecDepth 20000 in
theorem gX11_luck_X7_judgeBy : GoodIn wsX11_luck (wsV RX11 321 RX7 yX7_judgeBy wsX7_judgeBy) := goodIn_app (goodIn_of _ (by decide +kernel)) ggX11_luck_X7_judgeBy
set_option maxRecDepth 20000 in
theorem ggX11_luck_X11_told : GoodIn wsX11_luck wsX11_told := goodIn_r _ [168, 169] (by decide +kernel) (by decide +kernel)
set_option maxRecDepth 20000 in
theorem gX11_luck_X11_told : GoodIn wsX11_luck (va_wsS RX11 212 yX11_told wsX11_told) := goodIn_app (goodIn_of _ (by decide +kernel)) ggX11_luck_X11_told
theorem dX11_luck_0 : decode cX11_luck 0 = .ok (.aload_n 0, 1) := by decide +kernel
theorem dX11_luck_1 : decode cX11_luck 1 = .ok (.getfield 86, 3) := by decide +kernel
theorem dX11_luck_4 : decode cX11_luck 4 = .ok (.aload_n 0, 1) := by decide +kernel
theorem dX11_luck_5 : decode cX11_luck 5 = .ok (.getfield 39, 3) := by decide +kernel
theorem dX11_luck_8 : decode cX11_luck 8 = .ok (.invokevirtual 321, 3) := by decide +kernel
theorem dX11_luck_11 : decode cX11_luck 11 = .ok (.aload_n 0, 1) := by decide +kernel
theorem dX11_luck_12 : decode cX11_luck 12 = .ok (.getfield 86, 3) := by decide +kernel
theorem dX11_luck_15 : decode cX11_luck 15 = .ok (.getfield 324, 3) := by decide +kernel
theorem dX11_luck_18 : decode cX11_luck 18 = .ok (.bipush (-9), 2) := by decide +kernel
theorem dX11_luck_20 : decode cX11_luck 20 = .ok (.if_icmp .eq 9, 3) := by decide +kernel
theorem dX11_luck_23 : decode cX11_luck 23 = .ok (.ldc2_w 330, 3) := by decide +kernel
theorem dX11_luck_26 : decode cX11_luck 26 = .ok (.goto 21, 3) := by decide +kernel
theorem dX11_luck_29 : decode cX11_luck 29 = .ok (.aload_n 0, 1) := by decide +kernel
theorem dX11_luck_30 : decode cX11_luck 30 = .ok (.getfield 86, 3) := by decide +kernel
theorem dX11_luck_33 : decode cX11_luck 33 = .ok (.getfield 332, 3) := by decide +kernel
theorem dX11_luck_36 : decode cX11_luck 36 = .ok (.aload_n 0, 1) := by decide +kernel
theorem dX11_luck_37 : decode cX11_luck 37 = .ok (.getfield 86, 3) := by decide +kernel
theorem dX11_luck_40 : decode cX11_luck 40 = .ok (.getfield 335, 3) := by decide +kernel
theorem dX11_luck_43 : decode cX11_luck 43 = .ok (.iload_n 1, 1) := by decide +kernel
theorem dX11_luck_44 : decode cX11_luck 44 = .ok (.invokestatic 212, 3) := by decide +kernel
theorem dX11_luck_47 : decode cX11_luck 47 = .ok (.lreturn, 1) := by decide +kernel
set_option maxRecDepth 20000 in
theorem ggX11_worst_X7_judgeBy : GoodIn wsX11_worst wsX7_judgeBy := goodIn_r _ [9, 10, 11, 12, 13, 14, 15, 16, 17, 18, 19, 20, 21, 22, 23, 24, 25, 26, 27, 28, 29, 30, 31, 32, 8, 33, 34, 35, 36, 37, 38, 39, 40, 41, 42, 43, 44, 45, 46, 47, 48, 49, 50, 51, 52, 53, 54, 55, 56, 57, 58, 59, 60, 61, 62, 63, 64, 65, 66, 67, 68, 69, 70, 71, 72, 73, 74, 75, 76, 77, 78, 79, 80, 81, 82, 83, 84, 85, 86, 87, 88, 89, 90, 91, 92, 93, 94, 95, 96, 97, 98, 99, 100, 101, 102, 103, 104, 105, 106, 107, 108, 109, 110, 111, 112, 113, 114, 115, 116, 117, 118, 119, 120, 121, 122, 123, 124, 125, 126, 127, 128, 129, 130, 131, 132, 133, 134, 135, 136, 137, 138, 139, 140, 141, 142, 143, 144, 145, 146, 147, 148, 149, 150, 151, 152, 153, 154, 155, 156, 157, 158, 159, 160, 161, 162, 180, 181, 182, 183, 184, 185, 186, 187, 188, 189, 190, 191, 192, 193, 194, 195, 196, 197, 198, 199, 200, 201, 202, 203, 204, 205, 206, 207, 208] (by decide +kernel) (by decide +kernel)
set_option maxRecDepth 20000 in
theorem gX11_worst_X7_judgeBy : GoodIn wsX11_worst (wsV RX11 321 RX7 yX7_judgeBy wsX7_judgeBy) := goodIn_app (goodIn_of _ (by decide +kernel)) ggX11_worst_X7_judgeBy
theorem dX11_worst_0 : decode cX11_worst 0 = .ok (.aload_n 0, 1) := by decide +kernel
theorem dX11_worst_1 : decode cX11_worst 1 = .ok (.getfield 86, 3) := by decide +kernel
theorem dX11_worst_4 : decode cX11_worst 4 = .ok (.aload_n 0, 1) := by decide +kernel
theorem dX11_worst_5 : decode cX11_worst 5 = .ok (.getfield 39, 3) := by decide +kernel
theorem dX11_worst_8 : decode cX11_worst 8 = .ok (.invokevirtual 321, 3) := by decide +kernel
theorem dX11_worst_11 : decode cX11_worst 11 = .ok (.aload_n 0, 1) := by decide +kernel
theorem dX11_worst_12 : decode cX11_worst 12 = .ok (.getfield 86, 3) := by decide +kernel
theorem dX11_worst_15 : decode cX11_worst 15 = .ok (.getfield 324, 3) := by decide +kernel
theorem dX11_worst_18 : decode cX11_worst 18 = .ok (.bipush (-9), 2) := by decide +kernel
theorem dX11_worst_20 : decode cX11_worst 20 = .ok (.if_icmp .eq 8, 3) := by decide +kernel
theorem dX11_worst_23 : decode cX11_worst 23 = .ok (.bipush (-3), 2) := by decide +kernel
theorem dX11_worst_25 : decode cX11_worst 25 = .ok (.goto 10, 3) := by decide +kernel
theorem dX11_worst_28 : decode cX11_worst 28 = .ok (.aload_n 0, 1) := by decide +kernel
theorem dX11_worst_29 : decode cX11_worst 29 = .ok (.getfield 86, 3) := by decide +kernel
theorem dX11_worst_32 : decode cX11_worst 32 = .ok (.getfield 336, 3) := by decide +kernel
theorem dX11_worst_35 : decode cX11_worst 35 = .ok (.ireturn, 1) := by decide +kernel
set_option maxRecDepth 20000 in
theorem ggX11_count_X4_sumOf : GoodIn wsX11_count wsX4_sumOf := goodIn_r _ [12, 13, 42, 43, 44, 45, 46, 47, 48, 49, 50, 51, 52, 53, 54, 55] (by decide +kernel) (by decide +kernel)
set_option maxRecDepth 20000 in
theorem gX11_count_X4_sumOf : GoodIn wsX11_count (wsV RX11 339 RX4 yX4_sumOf wsX4_sumOf) := goodIn_app (goodIn_of _ (by decide +kernel)) ggX11_count_X4_sumOf
theorem dX11_count_0 : decode cX11_count 0 = .ok (.iload_n 1, 1) := by decide +kernel
theorem dX11_count_1 : decode cX11_count 1 = .ok (.tableswitch 77 0 3 #[31, 39, 47, 62], 31) := by decide +kernel
theorem dX11_count_32 : decode cX11_count 32 = .ok (.aload_n 0, 1) := by decide +kernel
theorem dX11_count_33 : decode cX11_count 33 = .ok (.getfield 10, 3) := by decide +kernel
theorem dX11_count_36 : decode cX11_count 36 = .ok (.getfield 105, 3) := by decide +kernel
theorem dX11_count_39 : decode cX11_count 39 = .ok (.ireturn, 1) := by decide +kernel
theorem dX11_count_40 : decode cX11_count 40 = .ok (.aload_n 0, 1) := by decide +kernel
theorem dX11_count_41 : decode cX11_count 41 = .ok (.getfield 86, 3) := by decide +kernel
theorem dX11_count_44 : decode cX11_count 44 = .ok (.getfield 318, 3) := by decide +kernel
theorem dX11_count_47 : decode cX11_count 47 = .ok (.ireturn, 1) := by decide +kernel
theorem dX11_count_48 : decode cX11_count 48 = .ok (.aload_n 0, 1) := by decide +kernel
theorem dX11_count_49 : decode cX11_count 49 = .ok (.getfield 39, 3) := by decide +kernel
theorem dX11_count_52 : decode cX11_count 52 = .ok (.aload_n 0, 1) := by decide +kernel
theorem dX11_count_53 : decode cX11_count 53 = .ok (.getfield 39, 3) := by decide +kernel
theorem dX11_count_56 : decode cX11_count 56 = .ok (.getfield 146, 3) := by decide +kernel
theorem dX11_count_59 : decode cX11_count 59 = .ok (.invokevirtual 339, 3) := by decide +kernel
theorem dX11_count_62 : decode cX11_count 62 = .ok (.ireturn, 1) := by decide +kernel
theorem dX11_count_63 : decode cX11_count 63 = .ok (.aload_n 0, 1) := by decide +kernel
theorem dX11_count_64 : decode cX11_count 64 = .ok (.getfield 39, 3) := by decide +kernel
theorem dX11_count_67 : decode cX11_count 67 = .ok (.aload_n 0, 1) := by decide +kernel
theorem dX11_count_68 : decode cX11_count 68 = .ok (.getfield 39, 3) := by decide +kernel
theorem dX11_count_71 : decode cX11_count 71 = .ok (.getfield 149, 3) := by decide +kernel
theorem dX11_count_74 : decode cX11_count 74 = .ok (.invokevirtual 339, 3) := by decide +kernel
theorem dX11_count_77 : decode cX11_count 77 = .ok (.ireturn, 1) := by decide +kernel
theorem dX11_count_78 : decode cX11_count 78 = .ok (.bipush (-2), 2) := by decide +kernel
theorem dX11_count_80 : decode cX11_count 80 = .ok (.ireturn, 1) := by decide +kernel
theorem dX11_isRule_0 : decode cX11_isRule 0 = .ok (.iload_n 1, 1) := by decide +kernel
theorem dX11_isRule_1 : decode cX11_isRule 1 = .ok (.ifCond .lt 12, 3) := by decide +kernel
theorem dX11_isRule_4 : decode cX11_isRule 4 = .ok (.iload_n 1, 1) := by decide +kernel
theorem dX11_isRule_5 : decode cX11_isRule 5 = .ok (.iconst 3, 1) := by decide +kernel
theorem dX11_isRule_6 : decode cX11_isRule 6 = .ok (.if_icmp .ge 7, 3) := by decide +kernel
theorem dX11_isRule_9 : decode cX11_isRule 9 = .ok (.iconst 1, 1) := by decide +kernel
theorem dX11_isRule_10 : decode cX11_isRule 10 = .ok (.goto 4, 3) := by decide +kernel
theorem dX11_isRule_13 : decode cX11_isRule 13 = .ok (.iconst 0, 1) := by decide +kernel
theorem dX11_isRule_14 : decode cX11_isRule 14 = .ok (.ireturn, 1) := by decide +kernel
theorem dX11_isWeek_0 : decode cX11_isWeek 0 = .ok (.iload_n 1, 1) := by decide +kernel
theorem dX11_isWeek_1 : decode cX11_isWeek 1 = .ok (.ifCond .lt 18, 3) := by decide +kernel
theorem dX11_isWeek_4 : decode cX11_isWeek 4 = .ok (.iload_n 1, 1) := by decide +kernel
theorem dX11_isWeek_5 : decode cX11_isWeek 5 = .ok (.aload_n 0, 1) := by decide +kernel
theorem dX11_isWeek_6 : decode cX11_isWeek 6 = .ok (.getfield 39, 3) := by decide +kernel
theorem dX11_isWeek_9 : decode cX11_isWeek 9 = .ok (.getfield 126, 3) := by decide +kernel
theorem dX11_isWeek_12 : decode cX11_isWeek 12 = .ok (.if_icmp .ge 7, 3) := by decide +kernel
theorem dX11_isWeek_15 : decode cX11_isWeek 15 = .ok (.iconst 1, 1) := by decide +kernel
theorem dX11_isWeek_16 : decode cX11_isWeek 16 = .ok (.goto 4, 3) := by decide +kernel
theorem dX11_isWeek_19 : decode cX11_isWeek 19 = .ok (.iconst 0, 1) := by decide +kernel
theorem dX11_isWeek_20 : decode cX11_isWeek 20 = .ok (.ireturn, 1) := by decide +kernel
theorem dX11_isSlot_0 : decode cX11_isSlot 0 = .ok (.iload_n 1, 1) := by decide +kernel
theorem dX11_isSlot_1 : decode cX11_isSlot 1 = .ok (.ifCond .lt 12, 3) := by decide +kernel
theorem dX11_isSlot_4 : decode cX11_isSlot 4 = .ok (.iload_n 1, 1) := by decide +kernel
theorem dX11_isSlot_5 : decode cX11_isSlot 5 = .ok (.iconst 2, 1) := by decide +kernel
theorem dX11_isSlot_6 : decode cX11_isSlot 6 = .ok (.if_icmp .ge 7, 3) := by decide +kernel
theorem dX11_isSlot_9 : decode cX11_isSlot 9 = .ok (.iconst 1, 1) := by decide +kernel
theorem dX11_isSlot_10 : decode cX11_isSlot 10 = .ok (.goto 4, 3) := by decide +kernel
theorem dX11_isSlot_13 : decode cX11_isSlot 13 = .ok (.iconst 0, 1) := by decide +kernel
theorem dX11_isSlot_14 : decode cX11_isSlot 14 = .ok (.ireturn, 1) := by decide +kernel
set_option maxRecDepth 20000 in
theorem ggX11_isHands_X3_areAtMost : GoodIn wsX11_isHands wsX3_areAtMost := goodIn_r _ [6, 7, 8, 5, 9] (by decide +kernel) (by decide +kernel)
set_option maxRecDepth 20000 in
theorem gX11_isHands_X3_areAtMost : GoodIn wsX11_isHands (va_wsS RX11 343 yX3_areAtMost wsX3_areAtMost) := goodIn_app (goodIn_of _ (by decide +kernel)) ggX11_isHands_X3_areAtMost
theorem dX11_isHands_0 : decode cX11_isHands 0 = .ok (.iload_n 1, 1) := by decide +kernel
theorem dX11_isHands_1 : decode cX11_isHands 1 = .ok (.aload_n 0, 1) := by decide +kernel
theorem dX11_isHands_2 : decode cX11_isHands 2 = .ok (.getfield 39, 3) := by decide +kernel
theorem dX11_isHands_5 : decode cX11_isHands 5 = .ok (.getfield 158, 3) := by decide +kernel
theorem dX11_isHands_8 : decode cX11_isHands 8 = .ok (.invokestatic 343, 3) := by decide +kernel
theorem dX11_isHands_11 : decode cX11_isHands 11 = .ok (.ireturn, 1) := by decide +kernel
theorem dX11_told_0 : decode cX11_told 0 = .ok (.lload_n 0, 1) := by decide +kernel
theorem dX11_told_1 : decode cX11_told 1 = .ok (.lstore 5, 2) := by decide +kernel
theorem dX11_told_3 : decode cX11_told 3 = .ok (.lload_n 2, 1) := by decide +kernel
theorem dX11_told_4 : decode cX11_told 4 = .ok (.lstore 7, 2) := by decide +kernel
theorem dX11_told_6 : decode cX11_told 6 = .ok (.iconst 0, 1) := by decide +kernel
theorem dX11_told_7 : decode cX11_told 7 = .ok (.istore 9, 2) := by decide +kernel
theorem dX11_told_9 : decode cX11_told 9 = .ok (.iload 9, 2) := by decide +kernel
theorem dX11_told_11 : decode cX11_told 11 = .ok (.bipush 20, 2) := by decide +kernel
theorem dX11_told_13 : decode cX11_told 13 = .ok (.if_icmp .ge 47, 3) := by decide +kernel
theorem dX11_told_16 : decode cX11_told 16 = .ok (.lload 5, 2) := by decide +kernel
theorem dX11_told_18 : decode cX11_told 18 = .ok (.ldc2_w 347, 3) := by decide +kernel
theorem dX11_told_21 : decode cX11_told 21 = .ok (.lrem, 1) := by decide +kernel
theorem dX11_told_22 : decode cX11_told 22 = .ok (.lconst 0, 1) := by decide +kernel
theorem dX11_told_23 : decode cX11_told 23 = .ok (.lcmp, 1) := by decide +kernel
theorem dX11_told_24 : decode cX11_told 24 = .ok (.ifCond .ne 36, 3) := by decide +kernel
theorem dX11_told_27 : decode cX11_told 27 = .ok (.lload 7, 2) := by decide +kernel
theorem dX11_told_29 : decode cX11_told 29 = .ok (.ldc2_w 347, 3) := by decide +kernel
theorem dX11_told_32 : decode cX11_told 32 = .ok (.lrem, 1) := by decide +kernel
theorem dX11_told_33 : decode cX11_told 33 = .ok (.lconst 0, 1) := by decide +kernel
theorem dX11_told_34 : decode cX11_told 34 = .ok (.lcmp, 1) := by decide +kernel
theorem dX11_told_35 : decode cX11_told 35 = .ok (.ifCond .ne 25, 3) := by decide +kernel
theorem dX11_told_38 : decode cX11_told 38 = .ok (.lload 5, 2) := by decide +kernel
theorem dX11_told_40 : decode cX11_told 40 = .ok (.ldc2_w 347, 3) := by decide +kernel
theorem dX11_told_43 : decode cX11_told 43 = .ok (.ldiv, 1) := by decide +kernel
theorem dX11_told_44 : decode cX11_told 44 = .ok (.lstore 5, 2) := by decide +kernel
theorem dX11_told_46 : decode cX11_told 46 = .ok (.lload 7, 2) := by decide +kernel
theorem dX11_told_48 : decode cX11_told 48 = .ok (.ldc2_w 347, 3) := by decide +kernel
theorem dX11_told_51 : decode cX11_told 51 = .ok (.ldiv, 1) := by decide +kernel
theorem dX11_told_52 : decode cX11_told 52 = .ok (.lstore 7, 2) := by decide +kernel
theorem dX11_told_54 : decode cX11_told 54 = .ok (.iinc 9 1, 3) := by decide +kernel
theorem dX11_told_57 : decode cX11_told 57 = .ok (.goto (-48), 3) := by decide +kernel
theorem dX11_told_60 : decode cX11_told 60 = .ok (.iload 4, 2) := by decide +kernel
theorem dX11_told_62 : decode cX11_told 62 = .ok (.ifCond .eq 8, 3) := by decide +kernel
theorem dX11_told_65 : decode cX11_told 65 = .ok (.lload 5, 2) := by decide +kernel
theorem dX11_told_67 : decode cX11_told 67 = .ok (.goto 5, 3) := by decide +kernel
theorem dX11_told_70 : decode cX11_told 70 = .ok (.lload 7, 2) := by decide +kernel
theorem dX11_told_72 : decode cX11_told 72 = .ok (.lreturn, 1) := by decide +kernel
theorem dX11_keptIn_0 : decode cX11_keptIn 0 = .ok (.iload_n 1, 1) := by decide +kernel
theorem dX11_keptIn_1 : decode cX11_keptIn 1 = .ok (.ifCond .ne 10, 3) := by decide +kernel
theorem dX11_keptIn_4 : decode cX11_keptIn 4 = .ok (.aload_n 0, 1) := by decide +kernel
theorem dX11_keptIn_5 : decode cX11_keptIn 5 = .ok (.getfield 73, 3) := by decide +kernel
theorem dX11_keptIn_8 : decode cX11_keptIn 8 = .ok (.goto 7, 3) := by decide +kernel
theorem dX11_keptIn_11 : decode cX11_keptIn 11 = .ok (.aload_n 0, 1) := by decide +kernel
theorem dX11_keptIn_12 : decode cX11_keptIn 12 = .ok (.getfield 76, 3) := by decide +kernel
theorem dX11_keptIn_15 : decode cX11_keptIn 15 = .ok (.areturn, 1) := by decide +kernel
theorem dX11_levelBy_0 : decode cX11_levelBy 0 = .ok (.aload_n 0, 1) := by decide +kernel
theorem dX11_levelBy_1 : decode cX11_levelBy 1 = .ok (.getfield 45, 3) := by decide +kernel
theorem dX11_levelBy_4 : decode cX11_levelBy 4 = .ok (.iload_n 1, 1) := by decide +kernel
theorem dX11_levelBy_5 : decode cX11_levelBy 5 = .ok (.iconst 5, 1) := by decide +kernel
theorem dX11_levelBy_6 : decode cX11_levelBy 6 = .ok (.imul, 1) := by decide +kernel
theorem dX11_levelBy_7 : decode cX11_levelBy 7 = .ok (.iload_n 2, 1) := by decide +kernel
theorem dX11_levelBy_8 : decode cX11_levelBy 8 = .ok (.iadd, 1) := by decide +kernel
theorem dX11_levelBy_9 : decode cX11_levelBy 9 = .ok (.iaload, 1) := by decide +kernel
theorem dX11_levelBy_10 : decode cX11_levelBy 10 = .ok (.ireturn, 1) := by decide +kernel
set_option maxRecDepth 20000 in
theorem ggX11_refuseState_X11_isWeek : GoodIn wsX11_refuseState wsX11_isWeek := goodIn_r _ [6, 1, 7, 26, 27, 28, 29, 30, 31, 32, 33, 34, 35, 36, 37, 38, 39, 40, 41, 42, 43, 44, 45, 46, 47, 48, 49, 50, 51, 52, 53, 54, 55, 56] (by decide +kernel) (by decide +kernel)
set_option maxRecDepth 20000 in
theorem gX11_refuseState_X11_isWeek : GoodIn wsX11_refuseState (wsV RX11 143 RX11 yX11_isWeek wsX11_isWeek) := goodIn_app (goodIn_of _ (by decide +kernel)) ggX11_refuseState_X11_isWeek
set_option maxRecDepth 20000 in
theorem ggX11_refuseState_X11_isHands : GoodIn wsX11_refuseState wsX11_isHands := goodIn_r _ [11, 1, 12, 13, 14, 15, 16, 17, 18, 19, 26, 27, 28, 29, 30, 31, 32, 33, 34, 35, 36, 37, 38, 39, 40, 41, 42, 43, 44, 45, 46, 47, 48, 49, 50, 51, 52, 53, 54, 55, 56] (by decide +kernel) (by decide +kernel)
set_option maxRecDepth 20000 in
theorem gX11_refuseState_X11_isHands : GoodIn wsX11_refuseState (wsV RX11 202 RX11 yX11_isHands wsX11_isHands) := goodIn_app (goodIn_of _ (by decide +kernel)) ggX11_refuseState_X11_isHands
set_option maxRecDepth 20000 in
theorem ggX11_refuseState_X4_mostComing : GoodIn wsX11_refuseState wsX4_mostComing := goodIn_r _ [24, 25, 43, 44, 45, 46, 47, 48, 49, 50, 51, 52, 53, 54, 55, 56] (by decide +kernel) (by decide +kernel)
set_option maxRecDepth 20000 in
theorem gX11_refuseState_X4_mostComing : GoodIn wsX11_refuseState (wsV RX11 349 RX4 yX4_mostComing wsX4_mostComing) := goodIn_app (goodIn_of _ (by decide +kernel)) ggX11_refuseState_X4_mostComing
theorem dX11_refuseState_0 : decode cX11_refuseState 0 = .ok (.aload_n 0, 1) := by decide +kernel
theorem dX11_refuseState_1 : decode cX11_refuseState 1 = .ok (.iload_n 1, 1) := by decide +kernel
theorem dX11_refuseState_2 : decode cX11_refuseState 2 = .ok (.invokevirtual 143, 3) := by decide +kernel
theorem dX11_refuseState_5 : decode cX11_refuseState 5 = .ok (.ifCond .ne 5, 3) := by decide +kernel
theorem dX11_refuseState_8 : decode cX11_refuseState 8 = .ok (.iconst (-1), 1) := by decide +kernel
theorem dX11_refuseState_9 : decode cX11_refuseState 9 = .ok (.ireturn, 1) := by decide +kernel
theorem dX11_refuseState_10 : decode cX11_refuseState 10 = .ok (.aload_n 0, 1) := by decide +kernel
theorem dX11_refuseState_11 : decode cX11_refuseState 11 = .ok (.iload_n 2, 1) := by decide +kernel
theorem dX11_refuseState_12 : decode cX11_refuseState 12 = .ok (.invokevirtual 202, 3) := by decide +kernel
theorem dX11_refuseState_15 : decode cX11_refuseState 15 = .ok (.ifCond .eq 18, 3) := by decide +kernel
theorem dX11_refuseState_18 : decode cX11_refuseState 18 = .ok (.iload_n 3, 1) := by decide +kernel
theorem dX11_refuseState_19 : decode cX11_refuseState 19 = .ok (.ifCond .lt 14, 3) := by decide +kernel
theorem dX11_refuseState_22 : decode cX11_refuseState 22 = .ok (.iload_n 3, 1) := by decide +kernel
theorem dX11_refuseState_23 : decode cX11_refuseState 23 = .ok (.aload_n 0, 1) := by decide +kernel
theorem dX11_refuseState_24 : decode cX11_refuseState 24 = .ok (.getfield 39, 3) := by decide +kernel
theorem dX11_refuseState_27 : decode cX11_refuseState 27 = .ok (.invokevirtual 349, 3) := by decide +kernel
theorem dX11_refuseState_30 : decode cX11_refuseState 30 = .ok (.if_icmp .le 6, 3) := by decide +kernel
theorem dX11_refuseState_33 : decode cX11_refuseState 33 = .ok (.bipush (-2), 2) := by decide +kernel
theorem dX11_refuseState_35 : decode cX11_refuseState 35 = .ok (.ireturn, 1) := by decide +kernel
theorem dX11_refuseState_36 : decode cX11_refuseState 36 = .ok (.iconst 0, 1) := by decide +kernel
theorem dX11_refuseState_37 : decode cX11_refuseState 37 = .ok (.ireturn, 1) := by decide +kernel
set_option maxRecDepth 20000 in
theorem ggX11_refuseAct_X11_refuseState : GoodIn wsX11_refuseAct wsX11_refuseState := goodIn_r _ [6, 1, 7, 8, 9, 5, 10, 11, 12, 13, 14, 15, 16, 17, 18, 19, 20, 21, 22, 23, 24, 25, 26, 27, 28, 29, 81, 82, 83, 84, 85, 86, 87, 88, 89, 90, 91, 92, 93, 94, 95, 96, 97, 98, 99, 100, 101, 102, 103, 104, 105, 106, 107, 108, 109, 110, 111] (by decide +kernel) (by decide +kernel)
set_option maxRecDepth 20000 in
theorem gX11_refuseAct_X11_refuseState : GoodIn wsX11_refuseAct (wsV RX11 222 RX11 yX11_refuseState wsX11_refuseState) := goodIn_app (goodIn_of _ (by decide +kernel)) ggX11_refuseAct_X11_refuseState
set_option maxRecDepth 20000 in
theorem ggX11_refuseAct_X4_allows : GoodIn wsX11_refuseAct wsX4_allows := goodIn_r _ [33, 34, 35, 36, 37, 38, 39, 40, 27, 41, 42, 43, 22, 19, 23, 44, 45, 46, 47, 48, 49, 50, 51, 52, 53, 54, 55, 56, 57, 58, 59, 60, 61, 62, 63, 64, 65, 66, 67, 68, 69, 70, 71, 72, 73, 74, 75, 76, 77, 78, 79, 80, 25, 26, 28, 29, 98, 99, 100, 101, 102, 103, 104, 105, 106, 107, 108, 109, 110, 111] (by decide +kernel) (by decide +kernel)
set_option maxRecDepth 20000 in
theorem gX11_refuseAct_X4_allows : GoodIn wsX11_refuseAct (wsV RX11 352 RX4 yX4_allows wsX4_allows) := goodIn_app (goodIn_of _ (by decide +kernel)) ggX11_refuseAct_X4_allows
theorem dX11_refuseAct_0 : decode cX11_refuseAct 0 = .ok (.aload_n 0, 1) := by decide +kernel
theorem dX11_refuseAct_1 : decode cX11_refuseAct 1 = .ok (.iload_n 1, 1) := by decide +kernel
theorem dX11_refuseAct_2 : decode cX11_refuseAct 2 = .ok (.iload_n 2, 1) := by decide +kernel
theorem dX11_refuseAct_3 : decode cX11_refuseAct 3 = .ok (.iload_n 3, 1) := by decide +kernel
theorem dX11_refuseAct_4 : decode cX11_refuseAct 4 = .ok (.invokevirtual 222, 3) := by decide +kernel
theorem dX11_refuseAct_7 : decode cX11_refuseAct 7 = .ok (.istore 5, 2) := by decide +kernel
theorem dX11_refuseAct_9 : decode cX11_refuseAct 9 = .ok (.iload 5, 2) := by decide +kernel
theorem dX11_refuseAct_11 : decode cX11_refuseAct 11 = .ok (.ifCond .eq 6, 3) := by decide +kernel
theorem dX11_refuseAct_14 : decode cX11_refuseAct 14 = .ok (.iload 5, 2) := by decide +kernel
theorem dX11_refuseAct_16 : decode cX11_refuseAct 16 = .ok (.ireturn, 1) := by decide +kernel
theorem dX11_refuseAct_17 : decode cX11_refuseAct 17 = .ok (.iload 4, 2) := by decide +kernel
theorem dX11_refuseAct_19 : decode cX11_refuseAct 19 = .ok (.ifCond .ge 6, 3) := by decide +kernel
theorem dX11_refuseAct_22 : decode cX11_refuseAct 22 = .ok (.bipush (-2), 2) := by decide +kernel
theorem dX11_refuseAct_24 : decode cX11_refuseAct 24 = .ok (.ireturn, 1) := by decide +kernel
theorem dX11_refuseAct_25 : decode cX11_refuseAct 25 = .ok (.aload_n 0, 1) := by decide +kernel
theorem dX11_refuseAct_26 : decode cX11_refuseAct 26 = .ok (.getfield 39, 3) := by decide +kernel
theorem dX11_refuseAct_29 : decode cX11_refuseAct 29 = .ok (.iload_n 1, 1) := by decide +kernel
theorem dX11_refuseAct_30 : decode cX11_refuseAct 30 = .ok (.iload_n 2, 1) := by decide +kernel
theorem dX11_refuseAct_31 : decode cX11_refuseAct 31 = .ok (.iload 4, 2) := by decide +kernel
theorem dX11_refuseAct_33 : decode cX11_refuseAct 33 = .ok (.invokevirtual 352, 3) := by decide +kernel
theorem dX11_refuseAct_36 : decode cX11_refuseAct 36 = .ok (.ifCond .eq 7, 3) := by decide +kernel
theorem dX11_refuseAct_39 : decode cX11_refuseAct 39 = .ok (.iconst 0, 1) := by decide +kernel
theorem dX11_refuseAct_40 : decode cX11_refuseAct 40 = .ok (.goto 5, 3) := by decide +kernel
theorem dX11_refuseAct_43 : decode cX11_refuseAct 43 = .ok (.bipush (-3), 2) := by decide +kernel
theorem dX11_refuseAct_45 : decode cX11_refuseAct 45 = .ok (.ireturn, 1) := by decide +kernel
set_option maxRecDepth 20000 in
theorem ggX11_goAheadOf_X1_start : GoodIn wsX11_goAheadOf wsX1_start := goodIn_r _ [7, 8, 9, 10, 11, 12, 13, 14, 15, 16, 17, 18, 19, 110, 111, 112, 113, 114, 115] (by decide +kernel) (by decide +kernel)
set_option maxRecDepth 20000 in
theorem gX11_goAheadOf_X1_start : GoodIn wsX11_goAheadOf (wsV RX11 356 RX1 yX1_start wsX1_start) := goodIn_app (goodIn_of _ (by decide +kernel)) ggX11_goAheadOf_X1_start
set_option maxRecDepth 20000 in
theorem ggX11_goAheadOf_X11_levelBy : GoodIn wsX11_goAheadOf wsX11_levelBy := goodIn_r _ [24, 25, 93, 94, 95, 96, 97, 98, 99, 100, 101, 102, 103, 104, 105, 106, 107, 108, 109] (by decide +kernel) (by decide +kernel)
set_option maxRecDepth 20000 in
theorem gX11_goAheadOf_X11_levelBy : GoodIn wsX11_goAheadOf (wsV RX11 139 RX11 yX11_levelBy wsX11_levelBy) := goodIn_app (goodIn_of _ (by decide +kernel)) ggX11_goAheadOf_X11_levelBy
set_option maxRecDepth 20000 in
theorem ggX11_goAheadOf_X1_passWeek : GoodIn wsX11_goAheadOf wsX1_passWeek := goodIn_r _ [29, 30, 31, 32, 8, 33, 11, 12, 13, 14, 34, 35, 36, 37, 38, 39, 40, 41, 42, 43, 44, 45, 46, 47, 48, 49, 50, 51, 52, 53, 17, 54, 55, 56, 57, 6, 58, 10, 59, 60, 61, 62, 63, 64, 65, 66, 67, 68, 69, 70, 71, 72, 73, 74, 75, 76, 77, 78, 79, 80, 81, 82, 15, 16, 18, 19, 110, 111, 112, 113, 114, 115, 116, 117, 118, 119, 120, 121, 122, 123, 124, 125, 126, 127, 128, 129] (by decide +kernel) (by decide +kernel)
set_option maxRecDepth 20000 in
theorem gX11_goAheadOf_X1_passWeek : GoodIn wsX11_goAheadOf (wsV RX11 360 RX1 yX1_passWeek wsX1_passWeek) := goodIn_app (goodIn_of _ (by decide +kernel)) ggX11_goAheadOf_X1_passWeek
set_option maxRecDepth 20000 in
theorem ggX11_goAheadOf_X1_passSunday : GoodIn wsX11_goAheadOf wsX1_passSunday := goodIn_r _ [86, 8, 30, 9, 87, 10, 11, 12, 13, 14, 88, 89, 90, 37, 91, 92, 110, 111, 112, 113, 114, 115, 116, 117, 118, 119, 120, 121, 122, 123, 124, 125, 126, 127, 128, 129] (by decide +kernel) (by decide +kernel)
set_option maxRecDepth 20000 in
theorem gX11_goAheadOf_X1_passSunday : GoodIn wsX11_goAheadOf (wsV RX11 363 RX1 yX1_passSunday wsX1_passSunday) := goodIn_app (goodIn_of _ (by decide +kernel)) ggX11_goAheadOf_X1_passSunday
theorem dX11_goAheadOf_0 : decode cX11_goAheadOf 0 = .ok (.aload_n 0, 1) := by decide +kernel
theorem dX11_goAheadOf_1 : decode cX11_goAheadOf 1 = .ok (.getfield 52, 3) := by decide +kernel
theorem dX11_goAheadOf_4 : decode cX11_goAheadOf 4 = .ok (.iconst 0, 1) := by decide +kernel
theorem dX11_goAheadOf_5 : decode cX11_goAheadOf 5 = .ok (.invokevirtual 356, 3) := by decide +kernel
theorem dX11_goAheadOf_8 : decode cX11_goAheadOf 8 = .ok (.iconst 0, 1) := by decide +kernel
theorem dX11_goAheadOf_9 : decode cX11_goAheadOf 9 = .ok (.istore_n 3, 1) := by decide +kernel
theorem dX11_goAheadOf_10 : decode cX11_goAheadOf 10 = .ok (.iload_n 3, 1) := by decide +kernel
theorem dX11_goAheadOf_11 : decode cX11_goAheadOf 11 = .ok (.iload_n 2, 1) := by decide +kernel
theorem dX11_goAheadOf_12 : decode cX11_goAheadOf 12 = .ok (.if_icmp .ge 39, 3) := by decide +kernel
theorem dX11_goAheadOf_15 : decode cX11_goAheadOf 15 = .ok (.aload_n 0, 1) := by decide +kernel
theorem dX11_goAheadOf_16 : decode cX11_goAheadOf 16 = .ok (.getfield 52, 3) := by decide +kernel
theorem dX11_goAheadOf_19 : decode cX11_goAheadOf 19 = .ok (.aload_n 0, 1) := by decide +kernel
theorem dX11_goAheadOf_20 : decode cX11_goAheadOf 20 = .ok (.getfield 39, 3) := by decide +kernel
theorem dX11_goAheadOf_23 : decode cX11_goAheadOf 23 = .ok (.iload_n 3, 1) := by decide +kernel
theorem dX11_goAheadOf_24 : decode cX11_goAheadOf 24 = .ok (.aload_n 0, 1) := by decide +kernel
theorem dX11_goAheadOf_25 : decode cX11_goAheadOf 25 = .ok (.iload_n 1, 1) := by decide +kernel
theorem dX11_goAheadOf_26 : decode cX11_goAheadOf 26 = .ok (.iload_n 3, 1) := by decide +kernel
theorem dX11_goAheadOf_27 : decode cX11_goAheadOf 27 = .ok (.invokevirtual 139, 3) := by decide +kernel
theorem dX11_goAheadOf_30 : decode cX11_goAheadOf 30 = .ok (.iconst 0, 1) := by decide +kernel
theorem dX11_goAheadOf_31 : decode cX11_goAheadOf 31 = .ok (.invokevirtual 360, 3) := by decide +kernel
theorem dX11_goAheadOf_34 : decode cX11_goAheadOf 34 = .ok (.aload_n 0, 1) := by decide +kernel
theorem dX11_goAheadOf_35 : decode cX11_goAheadOf 35 = .ok (.getfield 52, 3) := by decide +kernel
theorem dX11_goAheadOf_38 : decode cX11_goAheadOf 38 = .ok (.aload_n 0, 1) := by decide +kernel
theorem dX11_goAheadOf_39 : decode cX11_goAheadOf 39 = .ok (.getfield 39, 3) := by decide +kernel
theorem dX11_goAheadOf_42 : decode cX11_goAheadOf 42 = .ok (.invokevirtual 363, 3) := by decide +kernel
theorem dX11_goAheadOf_45 : decode cX11_goAheadOf 45 = .ok (.iinc 3 1, 3) := by decide +kernel
theorem dX11_goAheadOf_48 : decode cX11_goAheadOf 48 = .ok (.goto (-38), 3) := by decide +kernel
theorem dX11_goAheadOf_51 : decode cX11_goAheadOf 51 = .ok (.return_, 1) := by decide +kernel
set_option maxRecDepth 20000 in
theorem ggX11_goInto_X11_goAheadOf : GoodIn wsX11_goInto wsX11_goAheadOf := goodIn_r _ [7, 1, 2, 8, 9, 10, 11, 12, 13, 14, 15, 16, 17, 18, 19, 20, 21, 22, 23, 24, 25, 26, 27, 6, 28, 29, 30, 31, 32, 33, 34, 35, 36, 37, 38, 39, 40, 41, 42, 43, 44, 45, 46, 47, 48, 49, 50, 51, 52, 53, 54, 55, 56, 57, 58, 59, 60, 61, 62, 63, 64, 65, 66, 67, 68, 69, 70, 71, 72, 73, 74, 75, 76, 77, 78, 79, 80, 81, 82, 83, 84, 85, 86, 87, 88, 89, 90, 91, 92, 93, 94, 95, 96, 97, 98, 99, 100, 101, 102, 103, 104, 105, 106, 107, 108, 109, 110, 111, 112, 113, 114, 115, 116, 117, 118, 119, 120, 121, 122, 123, 124, 125, 126, 127, 128, 129, 130, 131, 132, 133] (by decide +kernel) (by decide +kernel)
set_option maxRecDepth 20000 in
theorem gX11_goInto_X11_goAheadOf : GoodIn wsX11_goInto (wsV RX11 246 RX11 yX11_goAheadOf wsX11_goAheadOf) := goodIn_app (goodIn_of _ (by decide +kernel)) ggX11_goInto_X11_goAheadOf
set_option maxRecDepth 20000 in
theorem ggX11_goInto_X11_levelBy : GoodIn wsX11_goInto wsX11_levelBy := goodIn_r _ [28, 29, 97, 98, 99, 100, 101, 102, 103, 104, 105, 106, 107, 108, 109, 110, 111, 112, 113] (by decide +kernel) (by decide +kernel)
set_option maxRecDepth 20000 in
theorem gX11_goInto_X11_levelBy : GoodIn wsX11_goInto (wsV RX11 139 RX11 yX11_levelBy wsX11_levelBy) := goodIn_app (goodIn_of _ (by decide +kernel)) ggX11_goInto_X11_levelBy
set_option maxRecDepth 20000 in
theorem ggX11_goInto_X1_passWeek : GoodIn wsX11_goInto wsX1_passWeek := goodIn_r _ [33, 34, 35, 36, 13, 37, 16, 17, 18, 19, 38, 39, 40, 41, 42, 43, 44, 45, 46, 47, 48, 49, 50, 51, 52, 53, 54, 55, 56, 57, 22, 58, 59, 60, 61, 11, 62, 15, 63, 64, 65, 66, 67, 68, 69, 70, 71, 72, 73, 74, 75, 76, 77, 78, 79, 80, 81, 82, 83, 84, 85, 86, 20, 21, 23, 24, 114, 115, 116, 117, 118, 119, 120, 121, 122, 123, 124, 125, 126, 127, 128, 129, 130, 131, 132, 133] (by decide +kernel) (by decide +kernel)
set_option maxRecDepth 20000 in
theorem gX11_goInto_X1_passWeek : GoodIn wsX11_goInto (wsV RX11 360 RX1 yX1_passWeek wsX1_passWeek) := goodIn_app (goodIn_of _ (by decide +kernel)) ggX11_goInto_X1_passWeek
theorem dX11_goInto_0 : decode cX11_goInto 0 = .ok (.aload_n 0, 1) := by decide +kernel
theorem dX11_goInto_1 : decode cX11_goInto 1 = .ok (.iload_n 1, 1) := by decide +kernel
theorem dX11_goInto_2 : decode cX11_goInto 2 = .ok (.iload_n 2, 1) := by decide +kernel
theorem dX11_goInto_3 : decode cX11_goInto 3 = .ok (.invokevirtual 246, 3) := by decide +kernel
theorem dX11_goInto_6 : decode cX11_goInto 6 = .ok (.aload_n 0, 1) := by decide +kernel
theorem dX11_goInto_7 : decode cX11_goInto 7 = .ok (.getfield 52, 3) := by decide +kernel
theorem dX11_goInto_10 : decode cX11_goInto 10 = .ok (.aload_n 0, 1) := by decide +kernel
theorem dX11_goInto_11 : decode cX11_goInto 11 = .ok (.getfield 39, 3) := by decide +kernel
theorem dX11_goInto_14 : decode cX11_goInto 14 = .ok (.iload_n 2, 1) := by decide +kernel
theorem dX11_goInto_15 : decode cX11_goInto 15 = .ok (.aload_n 0, 1) := by decide +kernel
theorem dX11_goInto_16 : decode cX11_goInto 16 = .ok (.iload_n 1, 1) := by decide +kernel
theorem dX11_goInto_17 : decode cX11_goInto 17 = .ok (.iload_n 2, 1) := by decide +kernel
theorem dX11_goInto_18 : decode cX11_goInto 18 = .ok (.invokevirtual 139, 3) := by decide +kernel
theorem dX11_goInto_21 : decode cX11_goInto 21 = .ok (.iconst 0, 1) := by decide +kernel
theorem dX11_goInto_22 : decode cX11_goInto 22 = .ok (.invokevirtual 360, 3) := by decide +kernel
theorem dX11_goInto_25 : decode cX11_goInto 25 = .ok (.return_, 1) := by decide +kernel
set_option maxRecDepth 20000 in
theorem ggX11_goToTheEnd_X1_start : GoodIn wsX11_goToTheEnd wsX1_start := goodIn_r _ [8, 9, 10, 11, 12, 13, 14, 15, 16, 17, 18, 19, 20, 134, 135, 136, 137, 138, 139] (by decide +kernel) (by decide +kernel)
set_option maxRecDepth 20000 in
theorem gX11_goToTheEnd_X1_start : GoodIn wsX11_goToTheEnd (wsV RX11 356 RX1 yX1_start wsX1_start) := goodIn_app (goodIn_of _ (by decide +kernel)) ggX11_goToTheEnd_X1_start
set_option maxRecDepth 20000 in
theorem ggX11_goToTheEnd_X11_levelBy : GoodIn wsX11_goToTheEnd wsX11_levelBy := goodIn_r _ [25, 26, 103, 104, 105, 106, 107, 108, 109, 110, 111, 112, 113, 114, 115, 116, 117, 118, 119] (by decide +kernel) (by decide +kernel)
set_option maxRecDepth 20000 in
theorem gX11_goToTheEnd_X11_levelBy : GoodIn wsX11_goToTheEnd (wsV RX11 139 RX11 yX11_levelBy wsX11_levelBy) := goodIn_app (goodIn_of _ (by decide +kernel)) ggX11_goToTheEnd_X11_levelBy
set_option maxRecDepth 20000 in
theorem ggX11_goToTheEnd_X1_passWeek : GoodIn wsX11_goToTheEnd wsX1_passWeek := goodIn_r _ [30, 31, 32, 33, 9, 34, 12, 13, 14, 15, 35, 36, 37, 38, 39, 40, 41, 42, 43, 44, 45, 46, 47, 48, 49, 50, 51, 52, 53, 54, 18, 55, 56, 57, 58, 7, 59, 11, 60, 61, 62, 63, 64, 65, 66, 67, 68, 69, 70, 71, 72, 73, 74, 75, 76, 77, 78, 79, 80, 81, 82, 83, 16, 17, 19, 20, 134, 135, 136, 137, 138, 139, 120, 121, 122, 123, 124, 125, 126, 127, 128, 129, 130, 131, 132, 133] (by decide +kernel) (by decide +kernel)
set_option maxRecDepth 20000 in
theorem gX11_goToTheEnd_X1_passWeek : GoodIn wsX11_goToTheEnd (wsV RX11 360 RX1 yX1_passWeek wsX1_passWeek) := goodIn_app (goodIn_of _ (by decide +kernel)) ggX11_goToTheEnd_X1_passWeek
set_option maxRecDepth 20000 in
theorem ggX11_goToTheEnd_X1_passSunday : GoodIn wsX11_goToTheEnd wsX1_passSunday := goodIn_r _ [87, 9, 31, 10, 88, 11, 12, 13, 14, 15, 89, 90, 91, 38, 92, 93, 134, 135, 136, 137, 138, 139, 120, 121, 122, 123, 124, 125, 126, 127, 128, 129, 130, 131, 132, 133] (by decide +kernel) (by decide +kernel)
set_option maxRecDepth 20000 in
theorem gX11_goToTheEnd_X1_passSunday : GoodIn wsX11_goToTheEnd (wsV RX11 363 RX1 yX1_passSunday wsX1_passSunday) := goodIn_app (goodIn_of _ (by decide +kernel)) ggX11_goToTheEnd_X1_passSunday
set_option maxRecDepth 20000 in
theorem ggX11_goToTheEnd_X1_payBonus : GoodIn wsX11_goToTheEnd wsX1_payBonus := goodIn_r _ [97, 11, 9, 34, 98, 99, 100, 38, 101, 102, 53, 54, 18, 55, 134, 135, 136, 137, 138, 139, 120, 121, 122, 123, 124, 125, 126, 127, 128, 129, 130, 131, 132, 133] (by decide +kernel) (by decide +kernel)
set_option maxRecDepth 20000 in
theorem gX11_goToTheEnd_X1_payBonus : GoodIn wsX11_goToTheEnd (wsV RX11 365 RX1 yX1_payBonus wsX1_payBonus) := goodIn_app (goodIn_of _ (by decide +kernel)) ggX11_goToTheEnd_X1_payBonus
theorem dX11_goToTheEnd_0 : decode cX11_goToTheEnd 0 = .ok (.aload_n 0, 1) := by decide +kernel
theorem dX11_goToTheEnd_1 : decode cX11_goToTheEnd 1 = .ok (.getfield 52, 3) := by decide +kernel
theorem dX11_goToTheEnd_4 : decode cX11_goToTheEnd 4 = .ok (.iload_n 3, 1) := by decide +kernel
theorem dX11_goToTheEnd_5 : decode cX11_goToTheEnd 5 = .ok (.invokevirtual 356, 3) := by decide +kernel
theorem dX11_goToTheEnd_8 : decode cX11_goToTheEnd 8 = .ok (.iload_n 2, 1) := by decide +kernel
theorem dX11_goToTheEnd_9 : decode cX11_goToTheEnd 9 = .ok (.istore 5, 2) := by decide +kernel
theorem dX11_goToTheEnd_11 : decode cX11_goToTheEnd 11 = .ok (.iload 5, 2) := by decide +kernel
theorem dX11_goToTheEnd_13 : decode cX11_goToTheEnd 13 = .ok (.aload_n 0, 1) := by decide +kernel
theorem dX11_goToTheEnd_14 : decode cX11_goToTheEnd 14 = .ok (.getfield 39, 3) := by decide +kernel
theorem dX11_goToTheEnd_17 : decode cX11_goToTheEnd 17 = .ok (.getfield 126, 3) := by decide +kernel
theorem dX11_goToTheEnd_20 : decode cX11_goToTheEnd 20 = .ok (.if_icmp .ge 52, 3) := by decide +kernel
theorem dX11_goToTheEnd_23 : decode cX11_goToTheEnd 23 = .ok (.aload_n 0, 1) := by decide +kernel
theorem dX11_goToTheEnd_24 : decode cX11_goToTheEnd 24 = .ok (.getfield 52, 3) := by decide +kernel
theorem dX11_goToTheEnd_27 : decode cX11_goToTheEnd 27 = .ok (.aload_n 0, 1) := by decide +kernel
theorem dX11_goToTheEnd_28 : decode cX11_goToTheEnd 28 = .ok (.getfield 39, 3) := by decide +kernel
theorem dX11_goToTheEnd_31 : decode cX11_goToTheEnd 31 = .ok (.iload 5, 2) := by decide +kernel
theorem dX11_goToTheEnd_33 : decode cX11_goToTheEnd 33 = .ok (.aload_n 0, 1) := by decide +kernel
theorem dX11_goToTheEnd_34 : decode cX11_goToTheEnd 34 = .ok (.iload_n 1, 1) := by decide +kernel
theorem dX11_goToTheEnd_35 : decode cX11_goToTheEnd 35 = .ok (.iload 5, 2) := by decide +kernel
theorem dX11_goToTheEnd_37 : decode cX11_goToTheEnd 37 = .ok (.invokevirtual 139, 3) := by decide +kernel
theorem dX11_goToTheEnd_40 : decode cX11_goToTheEnd 40 = .ok (.iload 5, 2) := by decide +kernel
theorem dX11_goToTheEnd_42 : decode cX11_goToTheEnd 42 = .ok (.iload_n 2, 1) := by decide +kernel
theorem dX11_goToTheEnd_43 : decode cX11_goToTheEnd 43 = .ok (.if_icmp .ne 8, 3) := by decide +kernel
theorem dX11_goToTheEnd_46 : decode cX11_goToTheEnd 46 = .ok (.iload 4, 2) := by decide +kernel
theorem dX11_goToTheEnd_48 : decode cX11_goToTheEnd 48 = .ok (.goto 4, 3) := by decide +kernel
theorem dX11_goToTheEnd_51 : decode cX11_goToTheEnd 51 = .ok (.iconst 0, 1) := by decide +kernel
theorem dX11_goToTheEnd_52 : decode cX11_goToTheEnd 52 = .ok (.invokevirtual 360, 3) := by decide +kernel
theorem dX11_goToTheEnd_55 : decode cX11_goToTheEnd 55 = .ok (.aload_n 0, 1) := by decide +kernel
theorem dX11_goToTheEnd_56 : decode cX11_goToTheEnd 56 = .ok (.getfield 52, 3) := by decide +kernel
theorem dX11_goToTheEnd_59 : decode cX11_goToTheEnd 59 = .ok (.aload_n 0, 1) := by decide +kernel
theorem dX11_goToTheEnd_60 : decode cX11_goToTheEnd 60 = .ok (.getfield 39, 3) := by decide +kernel
theorem dX11_goToTheEnd_63 : decode cX11_goToTheEnd 63 = .ok (.invokevirtual 363, 3) := by decide +kernel
theorem dX11_goToTheEnd_66 : decode cX11_goToTheEnd 66 = .ok (.iinc 5 1, 3) := by decide +kernel
theorem dX11_goToTheEnd_69 : decode cX11_goToTheEnd 69 = .ok (.goto (-58), 3) := by decide +kernel
theorem dX11_goToTheEnd_72 : decode cX11_goToTheEnd 72 = .ok (.aload_n 0, 1) := by decide +kernel
theorem dX11_goToTheEnd_73 : decode cX11_goToTheEnd 73 = .ok (.getfield 52, 3) := by decide +kernel
theorem dX11_goToTheEnd_76 : decode cX11_goToTheEnd 76 = .ok (.aload_n 0, 1) := by decide +kernel
theorem dX11_goToTheEnd_77 : decode cX11_goToTheEnd 77 = .ok (.getfield 39, 3) := by decide +kernel
theorem dX11_goToTheEnd_80 : decode cX11_goToTheEnd 80 = .ok (.invokevirtual 365, 3) := by decide +kernel
theorem dX11_goToTheEnd_83 : decode cX11_goToTheEnd 83 = .ok (.return_, 1) := by decide +kernel
set_option maxRecDepth 20000 in
theorem ggX11_planOnce_X6_solve : GoodIn wsX11_planOnce wsX6_solve := goodIn_r _ [8, 9, 10, 11, 12, 13, 14, 7, 15, 16, 17, 18, 19, 20, 21, 22, 23, 24, 25, 26, 27, 28, 29, 30, 31, 32, 33, 34, 35, 36, 37, 38, 39, 40, 41, 42, 43, 44, 45, 46, 47, 48, 49, 50, 51, 52, 53, 54, 55, 56, 57, 58, 59, 60, 61, 62, 63, 64, 65, 66, 67, 68, 69, 70, 71, 72, 73, 74, 75, 76, 77, 78, 79, 80, 81, 82, 83, 84, 85, 86, 87, 88, 89, 90, 91, 92, 93, 94, 95, 96, 97, 98, 99, 100, 101, 102, 103, 104, 105, 106, 107, 108, 109, 110, 111, 112, 113, 114, 115, 116, 117, 118, 119, 120, 121, 122, 123, 124, 125, 126, 127, 128, 129, 130, 148, 149, 150, 151, 152, 153, 154, 155, 156, 157, 158, 159, 160, 161, 162, 163, 164, 165, 166] (by decide +kernel) (by decide +kernel)
set_option maxRecDepth 20000 in
theorem gX11_planOnce_X6_solve : GoodIn wsX11_planOnce (wsV RX11 268 RX6 yX6_solve wsX6_solve) := goodIn_app (goodIn_of _ (by decide +kernel)) ggX11_planOnce_X6_solve
theorem dX11_planOnce_0 : decode cX11_planOnce 0 = .ok (.aload_n 0, 1) := by decide +kernel
theorem dX11_planOnce_1 : decode cX11_planOnce 1 = .ok (.getfield 119, 3) := by decide +kernel
theorem dX11_planOnce_4 : decode cX11_planOnce 4 = .ok (.ifCond .ne 19, 3) := by decide +kernel
theorem dX11_planOnce_7 : decode cX11_planOnce 7 = .ok (.aload_n 0, 1) := by decide +kernel
theorem dX11_planOnce_8 : decode cX11_planOnce 8 = .ok (.getfield 59, 3) := by decide +kernel
theorem dX11_planOnce_11 : decode cX11_planOnce 11 = .ok (.aload_n 0, 1) := by decide +kernel
theorem dX11_planOnce_12 : decode cX11_planOnce 12 = .ok (.getfield 39, 3) := by decide +kernel
theorem dX11_planOnce_15 : decode cX11_planOnce 15 = .ok (.invokevirtual 268, 3) := by decide +kernel
theorem dX11_planOnce_18 : decode cX11_planOnce 18 = .ok (.aload_n 0, 1) := by decide +kernel
theorem dX11_planOnce_19 : decode cX11_planOnce 19 = .ok (.iconst 1, 1) := by decide +kernel
theorem dX11_planOnce_20 : decode cX11_planOnce 20 = .ok (.putfield 119, 3) := by decide +kernel
theorem dX11_planOnce_23 : decode cX11_planOnce 23 = .ok (.return_, 1) := by decide +kernel
set_option maxRecDepth 20000 in
theorem ggX11_firstAgainst_X11_isHands : GoodIn wsX11_firstAgainst wsX11_isHands := goodIn_r _ [8, 3, 9, 10, 11, 12, 13, 14, 15, 16, 53, 54, 55, 56, 57, 58, 59, 60, 61, 62, 63, 64, 65, 66, 67, 68, 69, 70, 71, 72, 73, 74, 75, 76, 77, 78, 79, 80, 81, 82, 83] (by decide +kernel) (by decide +kernel)
set_option maxRecDepth 20000 in
theorem gX11_firstAgainst_X11_isHands : GoodIn wsX11_firstAgainst (wsV RX11 202 RX11 yX11_isHands wsX11_isHands) := goodIn_app (goodIn_of _ (by decide +kernel)) ggX11_firstAgainst_X11_isHands
set_option maxRecDepth 20000 in
theorem ggX11_firstAgainst_X6_firstAct : GoodIn wsX11_firstAgainst wsX6_firstAct := goodIn_r _ [21, 22, 23, 24, 12, 25, 26, 27, 28, 20, 29, 84, 85, 86, 87, 88] (by decide +kernel) (by decide +kernel)
set_option maxRecDepth 20000 in
theorem gX11_firstAgainst_X6_firstAct : GoodIn wsX11_firstAgainst (wsV RX11 262 RX6 yX6_firstAct wsX6_firstAct) := goodIn_app (goodIn_of _ (by decide +kernel)) ggX11_firstAgainst_X6_firstAct
set_option maxRecDepth 20000 in
theorem ggX11_firstAgainst_X0_taken : GoodIn wsX11_firstAgainst wsX0_taken := goodIn_r _ [33] (by decide +kernel) (by decide +kernel)
set_option maxRecDepth 20000 in
theorem gX11_firstAgainst_X0_taken : GoodIn wsX11_firstAgainst (va_wsS RX11 371 yX0_taken wsX0_taken) := goodIn_app (goodIn_of _ (by decide +kernel)) ggX11_firstAgainst_X0_taken
set_option maxRecDepth 20000 in
theorem ggX11_firstAgainst_X4_takenByLevel : GoodIn wsX11_firstAgainst wsX4_takenByLevel := goodIn_r _ [38, 39, 40, 41, 42, 43, 44, 45, 46, 47, 48, 37, 49, 50, 51, 52, 15, 12, 16, 70, 71, 72, 73, 74, 75, 76, 77, 78, 79, 80, 81, 82, 83] (by decide +kernel) (by decide +kernel)
set_option maxRecDepth 20000 in
theorem gX11_firstAgainst_X4_takenByLevel : GoodIn wsX11_firstAgainst (wsV RX11 216 RX4 yX4_takenByLevel wsX4_takenByLevel) := goodIn_app (goodIn_of _ (by decide +kernel)) ggX11_firstAgainst_X4_takenByLevel
theorem dX11_firstAgainst_0 : decode cX11_firstAgainst 0 = .ok (.getstatic 368, 3) := by decide +kernel
theorem dX11_firstAgainst_3 : decode cX11_firstAgainst 3 = .ok (.astore_n 3, 1) := by decide +kernel
theorem dX11_firstAgainst_4 : decode cX11_firstAgainst 4 = .ok (.aload_n 3, 1) := by decide +kernel
theorem dX11_firstAgainst_5 : decode cX11_firstAgainst 5 = .ok (.arraylength, 1) := by decide +kernel
theorem dX11_firstAgainst_6 : decode cX11_firstAgainst 6 = .ok (.istore 4, 2) := by decide +kernel
theorem dX11_firstAgainst_8 : decode cX11_firstAgainst 8 = .ok (.iconst 0, 1) := by decide +kernel
theorem dX11_firstAgainst_9 : decode cX11_firstAgainst 9 = .ok (.istore 5, 2) := by decide +kernel
theorem dX11_firstAgainst_11 : decode cX11_firstAgainst 11 = .ok (.iload 5, 2) := by decide +kernel
theorem dX11_firstAgainst_13 : decode cX11_firstAgainst 13 = .ok (.iload 4, 2) := by decide +kernel
theorem dX11_firstAgainst_15 : decode cX11_firstAgainst 15 = .ok (.if_icmp .ge 55, 3) := by decide +kernel
theorem dX11_firstAgainst_18 : decode cX11_firstAgainst 18 = .ok (.aload_n 3, 1) := by decide +kernel
theorem dX11_firstAgainst_19 : decode cX11_firstAgainst 19 = .ok (.iload 5, 2) := by decide +kernel
theorem dX11_firstAgainst_21 : decode cX11_firstAgainst 21 = .ok (.iaload, 1) := by decide +kernel
theorem dX11_firstAgainst_22 : decode cX11_firstAgainst 22 = .ok (.istore 6, 2) := by decide +kernel
theorem dX11_firstAgainst_24 : decode cX11_firstAgainst 24 = .ok (.aload_n 0, 1) := by decide +kernel
theorem dX11_firstAgainst_25 : decode cX11_firstAgainst 25 = .ok (.iload 6, 2) := by decide +kernel
theorem dX11_firstAgainst_27 : decode cX11_firstAgainst 27 = .ok (.invokevirtual 202, 3) := by decide +kernel
theorem dX11_firstAgainst_30 : decode cX11_firstAgainst 30 = .ok (.ifCond .eq 34, 3) := by decide +kernel
theorem dX11_firstAgainst_33 : decode cX11_firstAgainst 33 = .ok (.aload_n 0, 1) := by decide +kernel
theorem dX11_firstAgainst_34 : decode cX11_firstAgainst 34 = .ok (.getfield 59, 3) := by decide +kernel
theorem dX11_firstAgainst_37 : decode cX11_firstAgainst 37 = .ok (.iload_n 1, 1) := by decide +kernel
theorem dX11_firstAgainst_38 : decode cX11_firstAgainst 38 = .ok (.iload 6, 2) := by decide +kernel
theorem dX11_firstAgainst_40 : decode cX11_firstAgainst 40 = .ok (.iconst 0, 1) := by decide +kernel
theorem dX11_firstAgainst_41 : decode cX11_firstAgainst 41 = .ok (.invokevirtual 262, 3) := by decide +kernel
theorem dX11_firstAgainst_44 : decode cX11_firstAgainst 44 = .ok (.invokestatic 371, 3) := by decide +kernel
theorem dX11_firstAgainst_47 : decode cX11_firstAgainst 47 = .ok (.aload_n 0, 1) := by decide +kernel
theorem dX11_firstAgainst_48 : decode cX11_firstAgainst 48 = .ok (.getfield 39, 3) := by decide +kernel
theorem dX11_firstAgainst_51 : decode cX11_firstAgainst 51 = .ok (.iload_n 1, 1) := by decide +kernel
theorem dX11_firstAgainst_52 : decode cX11_firstAgainst 52 = .ok (.iload 6, 2) := by decide +kernel
theorem dX11_firstAgainst_54 : decode cX11_firstAgainst 54 = .ok (.iload_n 2, 1) := by decide +kernel
theorem dX11_firstAgainst_55 : decode cX11_firstAgainst 55 = .ok (.invokevirtual 216, 3) := by decide +kernel
theorem dX11_firstAgainst_58 : decode cX11_firstAgainst 58 = .ok (.if_icmp .eq 6, 3) := by decide +kernel
theorem dX11_firstAgainst_61 : decode cX11_firstAgainst 61 = .ok (.iload 6, 2) := by decide +kernel
theorem dX11_firstAgainst_63 : decode cX11_firstAgainst 63 = .ok (.ireturn, 1) := by decide +kernel
theorem dX11_firstAgainst_64 : decode cX11_firstAgainst 64 = .ok (.iinc 5 1, 3) := by decide +kernel
theorem dX11_firstAgainst_67 : decode cX11_firstAgainst 67 = .ok (.goto (-56), 3) := by decide +kernel
theorem dX11_firstAgainst_70 : decode cX11_firstAgainst 70 = .ok (.bipush (-9), 2) := by decide +kernel
theorem dX11_firstAgainst_72 : decode cX11_firstAgainst 72 = .ok (.ireturn, 1) := by decide +kernel
