theorem lf_X12_init_1 : ∀ w ∈ wsX12_init_r1, w ∈ wsX12_init := fun _ h => (List.mem_cons_of_mem _ (List.mem_append_left _ (List.mem_append_left _ h)))
theorem lf_X12_init_2 : ∀ w ∈ wsX12_init_r2, w ∈ wsX12_init := fun _ h => (List.mem_cons_of_mem _ (List.mem_append_left _ (List.mem_append_right _ h)))
theorem lf_X12_init_3 : ∀ w ∈ wsX120, w ∈ wsX12_init := fun _ h => (List.mem_cons_of_mem _ (List.mem_append_right _ h))
theorem ga_wsX120 : List.all wsX120 goodWord = true := by decide +kernel
set_option maxRecDepth 20000 in
theorem ggX12_init_X12_blank : GoodIn wsX12_init wsX12_blank := (gd_cons (lf_X12_init_2 _ (List.mem_of_getElem? (i := 3) rfl)) rfl (goodIn_app (gd_cons (lf_X12_init_1 _ (List.mem_of_getElem? (i := 4) rfl)) rfl (gd_cons (lf_X12_init_2 _ (List.mem_of_getElem? (i := 4) rfl)) rfl (gd_cons (lf_X12_init_2 _ (List.mem_of_getElem? (i := 5) rfl)) rfl (gd_cons (lf_X12_init_2 _ (List.mem_of_getElem? (i := 6) rfl)) rfl (gd_cons (lf_X12_init_2 _ (List.mem_of_getElem? (i := 7) rfl)) rfl (gd_cons (lf_X12_init_2 _ (List.mem_of_getElem? (i := 8) rfl)) rfl (gd_cons (lf_X12_init_2 _ (List.mem_of_getElem? (i := 9) rfl)) rfl (gd_cons (lf_X12_init_2 _ (List.mem_of_getElem? (i := 10) rfl)) rfl (gd_cons (lf_X12_init_2 _ (List.mem_of_getElem? (i := 11) rfl)) rfl (gd_cons (lf_X12_init_2 _ (List.mem_of_getElem? (i := 12) rfl)) rfl (gd_cons (lf_X12_init_2 _ (List.mem_of_getElem? (i := 13) rfl)) rfl (gd_cons (lf_X12_init_2 _ (List.mem_of_getElem? (i := 14) rfl)) rfl (gd_cons (lf_X12_init_2 _ (List.mem_of_getElem? (i := 15) rfl)) rfl (gd_cons (lf_X12_init_2 _ (List.mem_of_getElem? (i := 16) rfl)) rfl (gd_cons (lf_X12_init_2 _ (List.mem_of_getElem? (i := 2) rfl)) rfl (gd_cons (lf_X12_init_2 _ (List.mem_of_getElem? (i := 17) rfl)) rfl (gd_nil _))))))))))))))))) (goodIn_sub lf_X12_init_3 ga_wsX120)))
set_option maxRecDepth 20000 in
theorem gX12_init_X12_blank : GoodIn wsX12_init (wsV RX12 63 RX12 yX12_blank wsX12_blank) := goodIn_app (gd_cons (lf_X12_init_1 _ (List.mem_of_getElem? (i := 23) rfl)) rfl (gd_cons (lf_X12_init_2 _ (List.mem_of_getElem? (i := 0) rfl)) rfl (gd_cons (lf_X12_init_2 _ (List.mem_of_getElem? (i := 1) rfl)) rfl (gd_cons (lf_X12_init_2 _ (List.mem_of_getElem? (i := 2) rfl)) rfl (gd_nil _))))) ggX12_init_X12_blank
set_option maxRecDepth 20000 in
theorem ggX12_init_X12_takeHouse : GoodIn wsX12_init wsX12_takeHouse := (gd_cons (lf_X12_init_2 _ (List.mem_of_getElem? (i := 21) rfl)) rfl (goodIn_app (gd_cons (lf_X12_init_1 _ (List.mem_of_getElem? (i := 5) rfl)) rfl (gd_cons (lf_X12_init_1 _ (List.mem_of_getElem? (i := 4) rfl)) rfl (gd_nil _))) (goodIn_sub lf_X12_init_3 ga_wsX120)))
set_option maxRecDepth 20000 in
theorem gX12_init_X12_takeHouse : GoodIn wsX12_init (wsV RX12 66 RX12 yX12_takeHouse wsX12_takeHouse) := goodIn_app (gd_cons (lf_X12_init_2 _ (List.mem_of_getElem? (i := 18) rfl)) rfl (gd_cons (lf_X12_init_2 _ (List.mem_of_getElem? (i := 19) rfl)) rfl (gd_cons (lf_X12_init_2 _ (List.mem_of_getElem? (i := 20) rfl)) rfl (gd_cons (lf_X12_init_2 _ (List.mem_of_getElem? (i := 2) rfl)) rfl (gd_nil _))))) ggX12_init_X12_takeHouse
theorem dX12_init_0 : decode cX12_init 0 = .ok (.aload_n 0, 1) := dq_42 (dst 0 rd_prog_14_method_1_code_0 rfl)
theorem dX12_init_1 : decode cX12_init 1 = .ok (.invokespecial 1, 3) := dq_183 (dst 1 rd_prog_14_method_1_code_0 rfl) rfl
theorem dX12_init_4 : decode cX12_init 4 = .ok (.aload_n 0, 1) := dq_42 (dst 4 rd_prog_14_method_1_code_0 rfl)
theorem dX12_init_5 : decode cX12_init 5 = .ok (.bipush 26, 2) := dq_16 (dst 5 rd_prog_14_method_1_code_0 rfl) (by decide +kernel)
theorem dX12_init_7 : decode cX12_init 7 = .ok (.newarray .int, 2) := dq_188_10 (dst 7 rd_prog_14_method_1_code_0 rfl)
theorem dX12_init_9 : decode cX12_init 9 = .ok (.putfield 7, 3) := dq_181 (dst 9 rd_prog_14_method_1_code_0 rfl) rfl
theorem dX12_init_12 : decode cX12_init 12 = .ok (.aload_n 0, 1) := dq_42 (dst 12 rd_prog_14_method_1_code_0 rfl)
theorem dX12_init_13 : decode cX12_init 13 = .ok (.bipush 26, 2) := dq_16 (dst 13 rd_prog_14_method_1_code_0 rfl) (by decide +kernel)
theorem dX12_init_15 : decode cX12_init 15 = .ok (.newarray .int, 2) := dq_188_10 (dst 15 rd_prog_14_method_1_code_0 rfl)
theorem dX12_init_17 : decode cX12_init 17 = .ok (.putfield 13, 3) := dq_181 (dst 17 rd_prog_14_method_1_code_0 rfl) rfl
theorem dX12_init_20 : decode cX12_init 20 = .ok (.aload_n 0, 1) := dq_42 (dst 20 rd_prog_14_method_1_code_0 rfl)
theorem dX12_init_21 : decode cX12_init 21 = .ok (.bipush 64, 2) := dq_16 (dst 21 rd_prog_14_method_1_code_0 rfl) (by decide +kernel)
theorem dX12_init_23 : decode cX12_init 23 = .ok (.newarray .int, 2) := dq_188_10 (dst 23 rd_prog_14_method_1_code_0 rfl)
theorem dX12_init_25 : decode cX12_init 25 = .ok (.putfield 16, 3) := dq_181 (dst 25 rd_prog_14_method_1_code_0 rfl) rfl
theorem dX12_init_28 : decode cX12_init 28 = .ok (.aload_n 0, 1) := dq_42 (dst 28 rd_prog_14_method_1_code_0 rfl)
theorem dX12_init_29 : decode cX12_init 29 = .ok (.bipush 15, 2) := dq_16 (dst 29 rd_prog_14_method_1_code_0 rfl) (by decide +kernel)
theorem dX12_init_31 : decode cX12_init 31 = .ok (.newarray .int, 2) := dq_188_10 (dst 31 rd_prog_14_method_1_code_0 rfl)
theorem dX12_init_33 : decode cX12_init 33 = .ok (.putfield 19, 3) := dq_181 (dst 1 rd_prog_14_method_1_code_1 rfl) rfl
theorem dX12_init_36 : decode cX12_init 36 = .ok (.aload_n 0, 1) := dq_42 (dst 4 rd_prog_14_method_1_code_1 rfl)
theorem dX12_init_37 : decode cX12_init 37 = .ok (.iconst 5, 1) := dq_8 (dst 5 rd_prog_14_method_1_code_1 rfl)
theorem dX12_init_38 : decode cX12_init 38 = .ok (.newarray .int, 2) := dq_188_10 (dst 6 rd_prog_14_method_1_code_1 rfl)
theorem dX12_init_40 : decode cX12_init 40 = .ok (.putfield 22, 3) := dq_181 (dst 8 rd_prog_14_method_1_code_1 rfl) rfl
theorem dX12_init_43 : decode cX12_init 43 = .ok (.aload_n 0, 1) := dq_42 (dst 11 rd_prog_14_method_1_code_1 rfl)
theorem dX12_init_44 : decode cX12_init 44 = .ok (.sipush 1000, 3) := dq_17 (dst 12 rd_prog_14_method_1_code_1 rfl) (by decide +kernel)
theorem dX12_init_47 : decode cX12_init 47 = .ok (.newarray .long, 2) := dq_188_11 (dst 15 rd_prog_14_method_1_code_1 rfl)
theorem dX12_init_49 : decode cX12_init 49 = .ok (.putfield 25, 3) := dq_181 (dst 17 rd_prog_14_method_1_code_1 rfl) rfl
theorem dX12_init_52 : decode cX12_init 52 = .ok (.aload_n 0, 1) := dq_42 (dst 20 rd_prog_14_method_1_code_1 rfl)
theorem dX12_init_53 : decode cX12_init 53 = .ok (.sipush 1000, 3) := dq_17 (dst 21 rd_prog_14_method_1_code_1 rfl) (by decide +kernel)
theorem dX12_init_56 : decode cX12_init 56 = .ok (.newarray .long, 2) := dq_188_11 (dst 24 rd_prog_14_method_1_code_1 rfl)
theorem dX12_init_58 : decode cX12_init 58 = .ok (.putfield 29, 3) := dq_181 (dst 26 rd_prog_14_method_1_code_1 rfl) rfl
theorem dX12_init_61 : decode cX12_init 61 = .ok (.aload_n 0, 1) := dq_42 (dst 29 rd_prog_14_method_1_code_1 rfl)
theorem dX12_init_62 : decode cX12_init 62 = .ok (.bipush 50, 2) := dq_16 (dst 30 rd_prog_14_method_1_code_1 rfl) (by decide +kernel)
theorem dX12_init_64 : decode cX12_init 64 = .ok (.newarray .long, 2) := dq_188_11 (dst 0 rd_prog_14_method_1_code_2 rfl)
theorem dX12_init_66 : decode cX12_init 66 = .ok (.putfield 32, 3) := dq_181 (dst 2 rd_prog_14_method_1_code_2 rfl) rfl
theorem dX12_init_69 : decode cX12_init 69 = .ok (.aload_n 0, 1) := dq_42 (dst 5 rd_prog_14_method_1_code_2 rfl)
theorem dX12_init_70 : decode cX12_init 70 = .ok (.bipush 50, 2) := dq_16 (dst 6 rd_prog_14_method_1_code_2 rfl) (by decide +kernel)
theorem dX12_init_72 : decode cX12_init 72 = .ok (.newarray .long, 2) := dq_188_11 (dst 8 rd_prog_14_method_1_code_2 rfl)
theorem dX12_init_74 : decode cX12_init 74 = .ok (.putfield 35, 3) := dq_181 (dst 10 rd_prog_14_method_1_code_2 rfl) rfl
theorem dX12_init_77 : decode cX12_init 77 = .ok (.aload_n 0, 1) := dq_42 (dst 13 rd_prog_14_method_1_code_2 rfl)
theorem dX12_init_78 : decode cX12_init 78 = .ok (.sipush 1500, 3) := dq_17 (dst 14 rd_prog_14_method_1_code_2 rfl) (by decide +kernel)
theorem dX12_init_81 : decode cX12_init 81 = .ok (.newarray .long, 2) := dq_188_11 (dst 17 rd_prog_14_method_1_code_2 rfl)
theorem dX12_init_83 : decode cX12_init 83 = .ok (.putfield 38, 3) := dq_181 (dst 19 rd_prog_14_method_1_code_2 rfl) rfl
theorem dX12_init_86 : decode cX12_init 86 = .ok (.aload_n 0, 1) := dq_42 (dst 22 rd_prog_14_method_1_code_2 rfl)
theorem dX12_init_87 : decode cX12_init 87 = .ok (.sipush 1500, 3) := dq_17 (dst 23 rd_prog_14_method_1_code_2 rfl) (by decide +kernel)
theorem dX12_init_90 : decode cX12_init 90 = .ok (.newarray .long, 2) := dq_188_11 (dst 26 rd_prog_14_method_1_code_2 rfl)
theorem dX12_init_92 : decode cX12_init 92 = .ok (.putfield 41, 3) := dq_181 (dst 28 rd_prog_14_method_1_code_2 rfl) rfl
theorem dX12_init_95 : decode cX12_init 95 = .ok (.aload_n 0, 1) := dq_42 (dst 31 rd_prog_14_method_1_code_2 rfl)
theorem dX12_init_96 : decode cX12_init 96 = .ok (.sipush 1500, 3) := dq_17 (dst 0 rd_prog_14_method_1_code_3 rfl) (by decide +kernel)
theorem dX12_init_99 : decode cX12_init 99 = .ok (.newarray .int, 2) := dq_188_10 (dst 3 rd_prog_14_method_1_code_3 rfl)
theorem dX12_init_101 : decode cX12_init 101 = .ok (.putfield 44, 3) := dq_181 (dst 5 rd_prog_14_method_1_code_3 rfl) rfl
theorem dX12_init_104 : decode cX12_init 104 = .ok (.aload_n 0, 1) := dq_42 (dst 8 rd_prog_14_method_1_code_3 rfl)
theorem dX12_init_105 : decode cX12_init 105 = .ok (.iconst 5, 1) := dq_8 (dst 9 rd_prog_14_method_1_code_3 rfl)
theorem dX12_init_106 : decode cX12_init 106 = .ok (.newarray .int, 2) := dq_188_10 (dst 10 rd_prog_14_method_1_code_3 rfl)
theorem dX12_init_108 : decode cX12_init 108 = .ok (.putfield 47, 3) := dq_181 (dst 12 rd_prog_14_method_1_code_3 rfl) rfl
theorem dX12_init_111 : decode cX12_init 111 = .ok (.aload_n 0, 1) := dq_42 (dst 15 rd_prog_14_method_1_code_3 rfl)
theorem dX12_init_112 : decode cX12_init 112 = .ok (.iconst 2, 1) := dq_5 (dst 16 rd_prog_14_method_1_code_3 rfl)
theorem dX12_init_113 : decode cX12_init 113 = .ok (.newarray .boolean, 2) := dq_188_4 (dst 17 rd_prog_14_method_1_code_3 rfl)
theorem dX12_init_115 : decode cX12_init 115 = .ok (.putfield 50, 3) := dq_181 (dst 19 rd_prog_14_method_1_code_3 rfl) rfl
theorem dX12_init_118 : decode cX12_init 118 = .ok (.aload_n 0, 1) := dq_42 (dst 22 rd_prog_14_method_1_code_3 rfl)
theorem dX12_init_119 : decode cX12_init 119 = .ok (.bipush 14, 2) := dq_16 (dst 23 rd_prog_14_method_1_code_3 rfl) (by decide +kernel)
theorem dX12_init_121 : decode cX12_init 121 = .ok (.newarray .int, 2) := dq_188_10 (dst 25 rd_prog_14_method_1_code_3 rfl)
theorem dX12_init_123 : decode cX12_init 123 = .ok (.putfield 54, 3) := dq_181 (dst 27 rd_prog_14_method_1_code_3 rfl) rfl
theorem dX12_init_126 : decode cX12_init 126 = .ok (.aload_n 0, 1) := dq_42 (dst 30 rd_prog_14_method_1_code_3 rfl)
theorem dX12_init_127 : decode cX12_init 127 = .ok (.iconst 5, 1) := dq_8 (dst 31 rd_prog_14_method_1_code_3 rfl)
theorem dX12_init_128 : decode cX12_init 128 = .ok (.newarray .int, 2) := dq_188_10 (dst 0 rd_prog_14_method_1_code_4 rfl)
theorem dX12_init_130 : decode cX12_init 130 = .ok (.putfield 57, 3) := dq_181 (dst 2 rd_prog_14_method_1_code_4 rfl) rfl
theorem dX12_init_133 : decode cX12_init 133 = .ok (.aload_n 0, 1) := dq_42 (dst 5 rd_prog_14_method_1_code_4 rfl)
theorem dX12_init_134 : decode cX12_init 134 = .ok (.iconst 5, 1) := dq_8 (dst 6 rd_prog_14_method_1_code_4 rfl)
theorem dX12_init_135 : decode cX12_init 135 = .ok (.newarray .int, 2) := dq_188_10 (dst 7 rd_prog_14_method_1_code_4 rfl)
theorem dX12_init_137 : decode cX12_init 137 = .ok (.putfield 60, 3) := dq_181 (dst 9 rd_prog_14_method_1_code_4 rfl) rfl
theorem dX12_init_140 : decode cX12_init 140 = .ok (.aload_n 0, 1) := dq_42 (dst 12 rd_prog_14_method_1_code_4 rfl)
theorem dX12_init_141 : decode cX12_init 141 = .ok (.invokevirtual 63, 3) := dq_182 (dst 13 rd_prog_14_method_1_code_4 rfl) rfl
theorem dX12_init_144 : decode cX12_init 144 = .ok (.aload_n 0, 1) := dq_42 (dst 16 rd_prog_14_method_1_code_4 rfl)
theorem dX12_init_145 : decode cX12_init 145 = .ok (.getfield 7, 3) := dq_180 (dst 17 rd_prog_14_method_1_code_4 rfl) rfl
theorem dX12_init_148 : decode cX12_init 148 = .ok (.iconst 0, 1) := dq_3 (dst 20 rd_prog_14_method_1_code_4 rfl)
theorem dX12_init_149 : decode cX12_init 149 = .ok (.iconst 1, 1) := dq_4 (dst 21 rd_prog_14_method_1_code_4 rfl)
theorem dX12_init_150 : decode cX12_init 150 = .ok (.iastore, 1) := dq_79 (dst 22 rd_prog_14_method_1_code_4 rfl)
theorem dX12_init_151 : decode cX12_init 151 = .ok (.aload_n 0, 1) := dq_42 (dst 23 rd_prog_14_method_1_code_4 rfl)
theorem dX12_init_152 : decode cX12_init 152 = .ok (.invokevirtual 66, 3) := dq_182 (dst 24 rd_prog_14_method_1_code_4 rfl) rfl
theorem dX12_init_155 : decode cX12_init 155 = .ok (.return_, 1) := dq_177 (dst 27 rd_prog_14_method_1_code_4 rfl)
theorem dX12_in_0 : decode cX12_in 0 = .ok (.lload_n 0, 1) := dq_30 (dst 0 rd_prog_14_method_3_code_0 rfl)
theorem dX12_in_1 : decode cX12_in 1 = .ok (.lload_n 2, 1) := dq_32 (dst 1 rd_prog_14_method_3_code_0 rfl)
theorem dX12_in_2 : decode cX12_in 2 = .ok (.lcmp, 1) := dq_148 (dst 2 rd_prog_14_method_3_code_0 rfl)
theorem dX12_in_3 : decode cX12_in 3 = .ok (.ifCond .lt 14, 3) := dq_155 (dst 3 rd_prog_14_method_3_code_0 rfl) (by decide +kernel)
theorem dX12_in_6 : decode cX12_in 6 = .ok (.lload_n 0, 1) := dq_30 (dst 6 rd_prog_14_method_3_code_0 rfl)
theorem dX12_in_7 : decode cX12_in 7 = .ok (.lload 4, 2) := dq_22 (dst 7 rd_prog_14_method_3_code_0 rfl) rfl
theorem dX12_in_9 : decode cX12_in 9 = .ok (.lcmp, 1) := dq_148 (dst 9 rd_prog_14_method_3_code_0 rfl)
theorem dX12_in_10 : decode cX12_in 10 = .ok (.ifCond .gt 7, 3) := dq_157 (dst 10 rd_prog_14_method_3_code_0 rfl) (by decide +kernel)
theorem dX12_in_13 : decode cX12_in 13 = .ok (.iconst 1, 1) := dq_4 (dst 13 rd_prog_14_method_3_code_0 rfl)
theorem dX12_in_14 : decode cX12_in 14 = .ok (.goto 4, 3) := dq_167 (dst 14 rd_prog_14_method_3_code_0 rfl) (by decide +kernel)
theorem dX12_in_17 : decode cX12_in 17 = .ok (.iconst 0, 1) := dq_3 (dst 17 rd_prog_14_method_3_code_0 rfl)
theorem dX12_in_18 : decode cX12_in 18 = .ok (.ireturn, 1) := dq_172 (dst 18 rd_prog_14_method_3_code_0 rfl)
theorem lf_X12_blank_1 : ∀ w ∈ ([Cond.fieldLink RX12 7 "StillInAugustModel" "read" "[I", Cond.constantLong RX12 69 (4), Cond.constantLong RX12 71 (7), Cond.constantLong RX12 77 (15), Cond.constantLong RX12 79 (22), Cond.constantLong RX12 81 (23), Cond.constantLong RX12 83 (25), Cond.fieldLink RX12 85 "StillInAugustModel" "letters" "I", Cond.fieldLink RX12 89 "StillInAugustModel" "wantsTold" "I", Cond.fieldLink RX12 92 "StillInAugustModel" "offersTold" "I", Cond.fieldLink RX12 95 "StillInAugustModel" "goesTold" "I", Cond.fieldLink RX12 98 "StillInAugustModel" "doesTold" "I", Cond.methodLink RX12 73 yX12_in, Cond.static yX12_in, Cond.initialized RX12, Cond.code yX12_in cX12_in 6 (some .boolean)] : List Cond), w ∈ wsX12_blank := fun _ h => (List.mem_cons_of_mem _ (List.mem_append_left _ h))
theorem lf_X12_blank_2 : ∀ w ∈ wsX120, w ∈ wsX12_blank := fun _ h => (List.mem_cons_of_mem _ (List.mem_append_right _ h))
set_option maxRecDepth 20000 in
theorem ggX12_blank_X12_in : GoodIn wsX12_blank wsX12_in := (gd_cons (lf_X12_blank_1 _ (List.mem_of_getElem? (i := 15) rfl)) rfl (gd_nil _))
set_option maxRecDepth 20000 in
theorem gX12_blank_X12_in : GoodIn wsX12_blank (va_wsS RX12 73 yX12_in wsX12_in) := goodIn_app (gd_cons (lf_X12_blank_1 _ (List.mem_of_getElem? (i := 12) rfl)) rfl (gd_cons (lf_X12_blank_1 _ (List.mem_of_getElem? (i := 13) rfl)) rfl (gd_cons (lf_X12_blank_1 _ (List.mem_of_getElem? (i := 14) rfl)) rfl (gd_nil _)))) ggX12_blank_X12_in
theorem dX12_blank_0 : decode cX12_blank 0 = .ok (.iconst 0, 1) := dq_3 (dst 0 rd_prog_14_method_4_code_0 rfl)
theorem dX12_blank_1 : decode cX12_blank 1 = .ok (.istore_n 1, 1) := dq_60 (dst 1 rd_prog_14_method_4_code_0 rfl)
theorem dX12_blank_2 : decode cX12_blank 2 = .ok (.iload_n 1, 1) := dq_27 (dst 2 rd_prog_14_method_4_code_0 rfl)
theorem dX12_blank_3 : decode cX12_blank 3 = .ok (.bipush 26, 2) := dq_16 (dst 3 rd_prog_14_method_4_code_0 rfl) (by decide +kernel)
theorem dX12_blank_5 : decode cX12_blank 5 = .ok (.if_icmp .ge 94, 3) := dq_162 (dst 5 rd_prog_14_method_4_code_0 rfl) (by decide +kernel)
theorem dX12_blank_8 : decode cX12_blank 8 = .ok (.aload_n 0, 1) := dq_42 (dst 8 rd_prog_14_method_4_code_0 rfl)
theorem dX12_blank_9 : decode cX12_blank 9 = .ok (.getfield 7, 3) := dq_180 (dst 9 rd_prog_14_method_4_code_0 rfl) rfl
theorem dX12_blank_12 : decode cX12_blank 12 = .ok (.iload_n 1, 1) := dq_27 (dst 12 rd_prog_14_method_4_code_0 rfl)
theorem dX12_blank_13 : decode cX12_blank 13 = .ok (.iload_n 1, 1) := dq_27 (dst 13 rd_prog_14_method_4_code_0 rfl)
theorem dX12_blank_14 : decode cX12_blank 14 = .ok (.iconst 1, 1) := dq_4 (dst 14 rd_prog_14_method_4_code_0 rfl)
theorem dX12_blank_15 : decode cX12_blank 15 = .ok (.if_icmp .ne 7, 3) := dq_160 (dst 15 rd_prog_14_method_4_code_0 rfl) (by decide +kernel)
theorem dX12_blank_18 : decode cX12_blank 18 = .ok (.iconst 2, 1) := dq_5 (dst 18 rd_prog_14_method_4_code_0 rfl)
theorem dX12_blank_19 : decode cX12_blank 19 = .ok (.goto 73, 3) := dq_167 (dst 19 rd_prog_14_method_4_code_0 rfl) (by decide +kernel)
theorem dX12_blank_22 : decode cX12_blank 22 = .ok (.iload_n 1, 1) := dq_27 (dst 22 rd_prog_14_method_4_code_0 rfl)
theorem dX12_blank_23 : decode cX12_blank 23 = .ok (.iconst 2, 1) := dq_5 (dst 23 rd_prog_14_method_4_code_0 rfl)
theorem dX12_blank_24 : decode cX12_blank 24 = .ok (.if_icmp .eq 8, 3) := dq_159 (dst 24 rd_prog_14_method_4_code_0 rfl) (by decide +kernel)
theorem dX12_blank_27 : decode cX12_blank 27 = .ok (.iload_n 1, 1) := dq_27 (dst 27 rd_prog_14_method_4_code_0 rfl)
theorem dX12_blank_28 : decode cX12_blank 28 = .ok (.iconst 3, 1) := dq_6 (dst 28 rd_prog_14_method_4_code_0 rfl)
theorem dX12_blank_29 : decode cX12_blank 29 = .ok (.if_icmp .ne 7, 3) := dq_160 (dst 29 rd_prog_14_method_4_code_0 rfl) (by decide +kernel)
theorem dX12_blank_32 : decode cX12_blank 32 = .ok (.iconst 1, 1) := dq_4 (dst 0 rd_prog_14_method_4_code_1 rfl)
theorem dX12_blank_33 : decode cX12_blank 33 = .ok (.goto 59, 3) := dq_167 (dst 1 rd_prog_14_method_4_code_1 rfl) (by decide +kernel)
theorem dX12_blank_36 : decode cX12_blank 36 = .ok (.iload_n 1, 1) := dq_27 (dst 4 rd_prog_14_method_4_code_1 rfl)
theorem dX12_blank_37 : decode cX12_blank 37 = .ok (.i2l, 1) := dq_133 (dst 5 rd_prog_14_method_4_code_1 rfl)
theorem dX12_blank_38 : decode cX12_blank 38 = .ok (.ldc2_w 69, 3) := dq_20 (dst 6 rd_prog_14_method_4_code_1 rfl) rfl
theorem dX12_blank_41 : decode cX12_blank 41 = .ok (.ldc2_w 71, 3) := dq_20 (dst 9 rd_prog_14_method_4_code_1 rfl) rfl
theorem dX12_blank_44 : decode cX12_blank 44 = .ok (.invokestatic 73, 3) := dq_184 (dst 12 rd_prog_14_method_4_code_1 rfl) rfl
theorem dX12_blank_47 : decode cX12_blank 47 = .ok (.ifCond .eq 8, 3) := dq_153 (dst 15 rd_prog_14_method_4_code_1 rfl) (by decide +kernel)
theorem dX12_blank_50 : decode cX12_blank 50 = .ok (.bipush (-9), 2) := dq_16 (dst 18 rd_prog_14_method_4_code_1 rfl) (by decide +kernel)
theorem dX12_blank_52 : decode cX12_blank 52 = .ok (.goto 40, 3) := dq_167 (dst 20 rd_prog_14_method_4_code_1 rfl) (by decide +kernel)
theorem dX12_blank_55 : decode cX12_blank 55 = .ok (.iload_n 1, 1) := dq_27 (dst 23 rd_prog_14_method_4_code_1 rfl)
theorem dX12_blank_56 : decode cX12_blank 56 = .ok (.i2l, 1) := dq_133 (dst 24 rd_prog_14_method_4_code_1 rfl)
theorem dX12_blank_57 : decode cX12_blank 57 = .ok (.ldc2_w 77, 3) := dq_20 (dst 25 rd_prog_14_method_4_code_1 rfl) rfl
theorem dX12_blank_60 : decode cX12_blank 60 = .ok (.ldc2_w 79, 3) := dq_20 (dst 28 rd_prog_14_method_4_code_1 rfl) rfl
theorem dX12_blank_63 : decode cX12_blank 63 = .ok (.invokestatic 73, 3) := dq_184 (dst 31 rd_prog_14_method_4_code_1 rfl) rfl
theorem dX12_blank_66 : decode cX12_blank 66 = .ok (.ifCond .eq 7, 3) := dq_153 (dst 2 rd_prog_14_method_4_code_2 rfl) (by decide +kernel)
theorem dX12_blank_69 : decode cX12_blank 69 = .ok (.iconst 1, 1) := dq_4 (dst 5 rd_prog_14_method_4_code_2 rfl)
theorem dX12_blank_70 : decode cX12_blank 70 = .ok (.goto 22, 3) := dq_167 (dst 6 rd_prog_14_method_4_code_2 rfl) (by decide +kernel)
theorem dX12_blank_73 : decode cX12_blank 73 = .ok (.iload_n 1, 1) := dq_27 (dst 9 rd_prog_14_method_4_code_2 rfl)
theorem dX12_blank_74 : decode cX12_blank 74 = .ok (.i2l, 1) := dq_133 (dst 10 rd_prog_14_method_4_code_2 rfl)
theorem dX12_blank_75 : decode cX12_blank 75 = .ok (.ldc2_w 81, 3) := dq_20 (dst 11 rd_prog_14_method_4_code_2 rfl) rfl
theorem dX12_blank_78 : decode cX12_blank 78 = .ok (.ldc2_w 83, 3) := dq_20 (dst 14 rd_prog_14_method_4_code_2 rfl) rfl
theorem dX12_blank_81 : decode cX12_blank 81 = .ok (.invokestatic 73, 3) := dq_184 (dst 17 rd_prog_14_method_4_code_2 rfl) rfl
theorem dX12_blank_84 : decode cX12_blank 84 = .ok (.ifCond .eq 7, 3) := dq_153 (dst 20 rd_prog_14_method_4_code_2 rfl) (by decide +kernel)
theorem dX12_blank_87 : decode cX12_blank 87 = .ok (.iconst 4, 1) := dq_7 (dst 23 rd_prog_14_method_4_code_2 rfl)
theorem dX12_blank_88 : decode cX12_blank 88 = .ok (.goto 4, 3) := dq_167 (dst 24 rd_prog_14_method_4_code_2 rfl) (by decide +kernel)
theorem dX12_blank_91 : decode cX12_blank 91 = .ok (.iconst 0, 1) := dq_3 (dst 27 rd_prog_14_method_4_code_2 rfl)
theorem dX12_blank_92 : decode cX12_blank 92 = .ok (.iastore, 1) := dq_79 (dst 28 rd_prog_14_method_4_code_2 rfl)
theorem dX12_blank_93 : decode cX12_blank 93 = .ok (.iinc 1 1, 3) := dq_132 (dst 29 rd_prog_14_method_4_code_2 rfl) rfl (by decide +kernel)
theorem dX12_blank_96 : decode cX12_blank 96 = .ok (.goto (-94), 3) := dq_167 (dst 0 rd_prog_14_method_4_code_3 rfl) (by decide +kernel)
theorem dX12_blank_99 : decode cX12_blank 99 = .ok (.aload_n 0, 1) := dq_42 (dst 3 rd_prog_14_method_4_code_3 rfl)
theorem dX12_blank_100 : decode cX12_blank 100 = .ok (.iconst 0, 1) := dq_3 (dst 4 rd_prog_14_method_4_code_3 rfl)
theorem dX12_blank_101 : decode cX12_blank 101 = .ok (.putfield 85, 3) := dq_181 (dst 5 rd_prog_14_method_4_code_3 rfl) rfl
theorem dX12_blank_104 : decode cX12_blank 104 = .ok (.aload_n 0, 1) := dq_42 (dst 8 rd_prog_14_method_4_code_3 rfl)
theorem dX12_blank_105 : decode cX12_blank 105 = .ok (.iconst 0, 1) := dq_3 (dst 9 rd_prog_14_method_4_code_3 rfl)
theorem dX12_blank_106 : decode cX12_blank 106 = .ok (.putfield 89, 3) := dq_181 (dst 10 rd_prog_14_method_4_code_3 rfl) rfl
theorem dX12_blank_109 : decode cX12_blank 109 = .ok (.aload_n 0, 1) := dq_42 (dst 13 rd_prog_14_method_4_code_3 rfl)
theorem dX12_blank_110 : decode cX12_blank 110 = .ok (.iconst 0, 1) := dq_3 (dst 14 rd_prog_14_method_4_code_3 rfl)
theorem dX12_blank_111 : decode cX12_blank 111 = .ok (.putfield 92, 3) := dq_181 (dst 15 rd_prog_14_method_4_code_3 rfl) rfl
theorem dX12_blank_114 : decode cX12_blank 114 = .ok (.aload_n 0, 1) := dq_42 (dst 18 rd_prog_14_method_4_code_3 rfl)
theorem dX12_blank_115 : decode cX12_blank 115 = .ok (.iconst 0, 1) := dq_3 (dst 19 rd_prog_14_method_4_code_3 rfl)
theorem dX12_blank_116 : decode cX12_blank 116 = .ok (.putfield 95, 3) := dq_181 (dst 20 rd_prog_14_method_4_code_3 rfl) rfl
theorem dX12_blank_119 : decode cX12_blank 119 = .ok (.aload_n 0, 1) := dq_42 (dst 23 rd_prog_14_method_4_code_3 rfl)
theorem dX12_blank_120 : decode cX12_blank 120 = .ok (.iconst 0, 1) := dq_3 (dst 24 rd_prog_14_method_4_code_3 rfl)
theorem dX12_blank_121 : decode cX12_blank 121 = .ok (.putfield 98, 3) := dq_181 (dst 25 rd_prog_14_method_4_code_3 rfl) rfl
theorem dX12_blank_124 : decode cX12_blank 124 = .ok (.return_, 1) := dq_177 (dst 28 rd_prog_14_method_4_code_3 rfl)
theorem dX12_takeHouse_0 : decode cX12_takeHouse 0 = .ok (.iconst 0, 1) := dq_3 (dst 0 rd_prog_14_method_5_code_0 rfl)
theorem dX12_takeHouse_1 : decode cX12_takeHouse 1 = .ok (.istore_n 1, 1) := dq_60 (dst 1 rd_prog_14_method_5_code_0 rfl)
theorem dX12_takeHouse_2 : decode cX12_takeHouse 2 = .ok (.iload_n 1, 1) := dq_27 (dst 2 rd_prog_14_method_5_code_0 rfl)
theorem dX12_takeHouse_3 : decode cX12_takeHouse 3 = .ok (.bipush 26, 2) := dq_16 (dst 3 rd_prog_14_method_5_code_0 rfl) (by decide +kernel)
theorem dX12_takeHouse_5 : decode cX12_takeHouse 5 = .ok (.if_icmp .ge 21, 3) := dq_162 (dst 5 rd_prog_14_method_5_code_0 rfl) (by decide +kernel)
theorem dX12_takeHouse_8 : decode cX12_takeHouse 8 = .ok (.aload_n 0, 1) := dq_42 (dst 8 rd_prog_14_method_5_code_0 rfl)
theorem dX12_takeHouse_9 : decode cX12_takeHouse 9 = .ok (.getfield 13, 3) := dq_180 (dst 9 rd_prog_14_method_5_code_0 rfl) rfl
theorem dX12_takeHouse_12 : decode cX12_takeHouse 12 = .ok (.iload_n 1, 1) := dq_27 (dst 12 rd_prog_14_method_5_code_0 rfl)
theorem dX12_takeHouse_13 : decode cX12_takeHouse 13 = .ok (.aload_n 0, 1) := dq_42 (dst 13 rd_prog_14_method_5_code_0 rfl)
theorem dX12_takeHouse_14 : decode cX12_takeHouse 14 = .ok (.getfield 7, 3) := dq_180 (dst 14 rd_prog_14_method_5_code_0 rfl) rfl
theorem dX12_takeHouse_17 : decode cX12_takeHouse 17 = .ok (.iload_n 1, 1) := dq_27 (dst 17 rd_prog_14_method_5_code_0 rfl)
theorem dX12_takeHouse_18 : decode cX12_takeHouse 18 = .ok (.iaload, 1) := dq_46 (dst 18 rd_prog_14_method_5_code_0 rfl)
theorem dX12_takeHouse_19 : decode cX12_takeHouse 19 = .ok (.iastore, 1) := dq_79 (dst 19 rd_prog_14_method_5_code_0 rfl)
theorem dX12_takeHouse_20 : decode cX12_takeHouse 20 = .ok (.iinc 1 1, 3) := dq_132 (dst 20 rd_prog_14_method_5_code_0 rfl) rfl (by decide +kernel)
theorem dX12_takeHouse_23 : decode cX12_takeHouse 23 = .ok (.goto (-21), 3) := dq_167 (dst 23 rd_prog_14_method_5_code_0 rfl) (by decide +kernel)
theorem dX12_takeHouse_26 : decode cX12_takeHouse 26 = .ok (.return_, 1) := dq_177 (dst 26 rd_prog_14_method_5_code_0 rfl)
theorem lf_X12_write_1 : ∀ w ∈ ([Cond.constantLong RX12 101 (8), Cond.fieldLink RX12 103 "StillInAugustModel" "length" "I", Cond.fieldLink RX12 16 "StillInAugustModel" "text" "[I", Cond.constantLong RX12 106 (255), Cond.methodLink RX12 73 yX12_in, Cond.static yX12_in, Cond.initialized RX12, Cond.code yX12_in cX12_in 6 (some .boolean)] : List Cond), w ∈ wsX12_write := fun _ h => (List.mem_cons_of_mem _ (List.mem_append_left _ h))
theorem lf_X12_write_2 : ∀ w ∈ wsX120, w ∈ wsX12_write := fun _ h => (List.mem_cons_of_mem _ (List.mem_append_right _ h))
set_option maxRecDepth 20000 in
theorem ggX12_write_X12_in : GoodIn wsX12_write wsX12_in := (gd_cons (lf_X12_write_1 _ (List.mem_of_getElem? (i := 7) rfl)) rfl (gd_nil _))
set_option maxRecDepth 20000 in
theorem gX12_write_X12_in : GoodIn wsX12_write (va_wsS RX12 73 yX12_in wsX12_in) := goodIn_app (gd_cons (lf_X12_write_1 _ (List.mem_of_getElem? (i := 4) rfl)) rfl (gd_cons (lf_X12_write_1 _ (List.mem_of_getElem? (i := 5) rfl)) rfl (gd_cons (lf_X12_write_1 _ (List.mem_of_getElem? (i := 6) rfl)) rfl (gd_nil _)))) ggX12_write_X12_in
theorem dX12_write_0 : decode cX12_write 0 = .ok (.iload_n 1, 1) := dq_27 (dst 0 rd_prog_14_method_6_code_0 rfl)
theorem dX12_write_1 : decode cX12_write 1 = .ok (.i2l, 1) := dq_133 (dst 1 rd_prog_14_method_6_code_0 rfl)
theorem dX12_write_2 : decode cX12_write 2 = .ok (.lconst 1, 1) := dq_10 (dst 2 rd_prog_14_method_6_code_0 rfl)
theorem dX12_write_3 : decode cX12_write 3 = .ok (.ldc2_w 101, 3) := dq_20 (dst 3 rd_prog_14_method_6_code_0 rfl) rfl
theorem dX12_write_6 : decode cX12_write 6 = .ok (.invokestatic 73, 3) := dq_184 (dst 6 rd_prog_14_method_6_code_0 rfl) rfl
theorem dX12_write_9 : decode cX12_write 9 = .ok (.ifCond .ne 6, 3) := dq_154 (dst 9 rd_prog_14_method_6_code_0 rfl) (by decide +kernel)
theorem dX12_write_12 : decode cX12_write 12 = .ok (.bipush (-2), 2) := dq_16 (dst 12 rd_prog_14_method_6_code_0 rfl) (by decide +kernel)
theorem dX12_write_14 : decode cX12_write 14 = .ok (.ireturn, 1) := dq_172 (dst 14 rd_prog_14_method_6_code_0 rfl)
theorem dX12_write_15 : decode cX12_write 15 = .ok (.aload_n 0, 1) := dq_42 (dst 15 rd_prog_14_method_6_code_0 rfl)
theorem dX12_write_16 : decode cX12_write 16 = .ok (.getfield 103, 3) := dq_180 (dst 16 rd_prog_14_method_6_code_0 rfl) rfl
theorem dX12_write_19 : decode cX12_write 19 = .ok (.iload_n 1, 1) := dq_27 (dst 19 rd_prog_14_method_6_code_0 rfl)
theorem dX12_write_20 : decode cX12_write 20 = .ok (.iadd, 1) := dq_96 (dst 20 rd_prog_14_method_6_code_0 rfl)
theorem dX12_write_21 : decode cX12_write 21 = .ok (.bipush 64, 2) := dq_16 (dst 21 rd_prog_14_method_6_code_0 rfl) (by decide +kernel)
theorem dX12_write_23 : decode cX12_write 23 = .ok (.if_icmp .le 6, 3) := dq_164 (dst 23 rd_prog_14_method_6_code_0 rfl) (by decide +kernel)
theorem dX12_write_26 : decode cX12_write 26 = .ok (.bipush (-4), 2) := dq_16 (dst 26 rd_prog_14_method_6_code_0 rfl) (by decide +kernel)
theorem dX12_write_28 : decode cX12_write 28 = .ok (.ireturn, 1) := dq_172 (dst 28 rd_prog_14_method_6_code_0 rfl)
theorem dX12_write_29 : decode cX12_write 29 = .ok (.iload_n 1, 1) := dq_27 (dst 29 rd_prog_14_method_6_code_0 rfl)
theorem dX12_write_30 : decode cX12_write 30 = .ok (.iconst 1, 1) := dq_4 (dst 30 rd_prog_14_method_6_code_0 rfl)
theorem dX12_write_31 : decode cX12_write 31 = .ok (.isub, 1) := dq_100 (dst 31 rd_prog_14_method_6_code_0 rfl)
theorem dX12_write_32 : decode cX12_write 32 = .ok (.istore 4, 2) := dq_54 (dst 0 rd_prog_14_method_6_code_1 rfl) rfl
theorem dX12_write_34 : decode cX12_write 34 = .ok (.iload 4, 2) := dq_21 (dst 2 rd_prog_14_method_6_code_1 rfl) rfl
theorem dX12_write_36 : decode cX12_write 36 = .ok (.ifCond .lt 40, 3) := dq_155 (dst 4 rd_prog_14_method_6_code_1 rfl) (by decide +kernel)
theorem dX12_write_39 : decode cX12_write 39 = .ok (.aload_n 0, 1) := dq_42 (dst 7 rd_prog_14_method_6_code_1 rfl)
theorem dX12_write_40 : decode cX12_write 40 = .ok (.getfield 16, 3) := dq_180 (dst 8 rd_prog_14_method_6_code_1 rfl) rfl
theorem dX12_write_43 : decode cX12_write 43 = .ok (.aload_n 0, 1) := dq_42 (dst 11 rd_prog_14_method_6_code_1 rfl)
theorem dX12_write_44 : decode cX12_write 44 = .ok (.getfield 103, 3) := dq_180 (dst 12 rd_prog_14_method_6_code_1 rfl) rfl
theorem dX12_write_47 : decode cX12_write 47 = .ok (.lload_n 2, 1) := dq_32 (dst 15 rd_prog_14_method_6_code_1 rfl)
theorem dX12_write_48 : decode cX12_write 48 = .ok (.bipush 8, 2) := dq_16 (dst 16 rd_prog_14_method_6_code_1 rfl) (by decide +kernel)
theorem dX12_write_50 : decode cX12_write 50 = .ok (.iload 4, 2) := dq_21 (dst 18 rd_prog_14_method_6_code_1 rfl) rfl
theorem dX12_write_52 : decode cX12_write 52 = .ok (.imul, 1) := dq_104 (dst 20 rd_prog_14_method_6_code_1 rfl)
theorem dX12_write_53 : decode cX12_write 53 = .ok (.lshr, 1) := dq_123 (dst 21 rd_prog_14_method_6_code_1 rfl)
theorem dX12_write_54 : decode cX12_write 54 = .ok (.ldc2_w 106, 3) := dq_20 (dst 22 rd_prog_14_method_6_code_1 rfl) rfl
theorem dX12_write_57 : decode cX12_write 57 = .ok (.land, 1) := dq_127 (dst 25 rd_prog_14_method_6_code_1 rfl)
theorem dX12_write_58 : decode cX12_write 58 = .ok (.l2i, 1) := dq_136 (dst 26 rd_prog_14_method_6_code_1 rfl)
theorem dX12_write_59 : decode cX12_write 59 = .ok (.iastore, 1) := dq_79 (dst 27 rd_prog_14_method_6_code_1 rfl)
theorem dX12_write_60 : decode cX12_write 60 = .ok (.aload_n 0, 1) := dq_42 (dst 28 rd_prog_14_method_6_code_1 rfl)
theorem dX12_write_61 : decode cX12_write 61 = .ok (.dup, 1) := dq_89 (dst 29 rd_prog_14_method_6_code_1 rfl)
theorem dX12_write_62 : decode cX12_write 62 = .ok (.getfield 103, 3) := dq_180 (dst 30 rd_prog_14_method_6_code_1 rfl) rfl
theorem dX12_write_65 : decode cX12_write 65 = .ok (.iconst 1, 1) := dq_4 (dst 1 rd_prog_14_method_6_code_2 rfl)
theorem dX12_write_66 : decode cX12_write 66 = .ok (.iadd, 1) := dq_96 (dst 2 rd_prog_14_method_6_code_2 rfl)
theorem dX12_write_67 : decode cX12_write 67 = .ok (.putfield 103, 3) := dq_181 (dst 3 rd_prog_14_method_6_code_2 rfl) rfl
theorem dX12_write_70 : decode cX12_write 70 = .ok (.iinc 4 (-1), 3) := dq_132 (dst 6 rd_prog_14_method_6_code_2 rfl) rfl (by decide +kernel)
theorem dX12_write_73 : decode cX12_write 73 = .ok (.goto (-39), 3) := dq_167 (dst 9 rd_prog_14_method_6_code_2 rfl) (by decide +kernel)
theorem dX12_write_76 : decode cX12_write 76 = .ok (.aload_n 0, 1) := dq_42 (dst 12 rd_prog_14_method_6_code_2 rfl)
theorem dX12_write_77 : decode cX12_write 77 = .ok (.getfield 103, 3) := dq_180 (dst 13 rd_prog_14_method_6_code_2 rfl) rfl
theorem dX12_write_80 : decode cX12_write 80 = .ok (.ireturn, 1) := dq_172 (dst 16 rd_prog_14_method_6_code_2 rfl)
theorem dX12_wipe_0 : decode cX12_wipe 0 = .ok (.aload_n 0, 1) := dq_42 (dst 0 rd_prog_14_method_7_code_0 rfl)
theorem dX12_wipe_1 : decode cX12_wipe 1 = .ok (.getfield 103, 3) := dq_180 (dst 1 rd_prog_14_method_7_code_0 rfl) rfl
theorem dX12_wipe_4 : decode cX12_wipe 4 = .ok (.istore_n 1, 1) := dq_60 (dst 4 rd_prog_14_method_7_code_0 rfl)
theorem dX12_wipe_5 : decode cX12_wipe 5 = .ok (.aload_n 0, 1) := dq_42 (dst 5 rd_prog_14_method_7_code_0 rfl)
theorem dX12_wipe_6 : decode cX12_wipe 6 = .ok (.iconst 0, 1) := dq_3 (dst 6 rd_prog_14_method_7_code_0 rfl)
theorem dX12_wipe_7 : decode cX12_wipe 7 = .ok (.putfield 103, 3) := dq_181 (dst 7 rd_prog_14_method_7_code_0 rfl) rfl
theorem dX12_wipe_10 : decode cX12_wipe 10 = .ok (.iload_n 1, 1) := dq_27 (dst 10 rd_prog_14_method_7_code_0 rfl)
theorem dX12_wipe_11 : decode cX12_wipe 11 = .ok (.ireturn, 1) := dq_172 (dst 11 rd_prog_14_method_7_code_0 rfl)
theorem dX12_fail_0 : decode cX12_fail 0 = .ok (.aload_n 0, 1) := dq_42 (dst 0 rd_prog_14_method_8_code_0 rfl)
theorem dX12_fail_1 : decode cX12_fail 1 = .ok (.aload_n 0, 1) := dq_42 (dst 1 rd_prog_14_method_8_code_0 rfl)
theorem dX12_fail_2 : decode cX12_fail 2 = .ok (.getfield 108, 3) := dq_180 (dst 2 rd_prog_14_method_8_code_0 rfl) rfl
theorem dX12_fail_5 : decode cX12_fail 5 = .ok (.bipush (-9), 2) := dq_16 (dst 5 rd_prog_14_method_8_code_0 rfl) (by decide +kernel)
theorem dX12_fail_7 : decode cX12_fail 7 = .ok (.if_icmp .ne 10, 3) := dq_160 (dst 7 rd_prog_14_method_8_code_0 rfl) (by decide +kernel)
theorem dX12_fail_10 : decode cX12_fail 10 = .ok (.aload_n 0, 1) := dq_42 (dst 10 rd_prog_14_method_8_code_0 rfl)
theorem dX12_fail_11 : decode cX12_fail 11 = .ok (.getfield 111, 3) := dq_180 (dst 11 rd_prog_14_method_8_code_0 rfl) rfl
theorem dX12_fail_14 : decode cX12_fail 14 = .ok (.goto 7, 3) := dq_167 (dst 14 rd_prog_14_method_8_code_0 rfl) (by decide +kernel)
theorem dX12_fail_17 : decode cX12_fail 17 = .ok (.aload_n 0, 1) := dq_42 (dst 17 rd_prog_14_method_8_code_0 rfl)
theorem dX12_fail_18 : decode cX12_fail 18 = .ok (.getfield 108, 3) := dq_180 (dst 18 rd_prog_14_method_8_code_0 rfl) rfl
theorem dX12_fail_21 : decode cX12_fail 21 = .ok (.putfield 108, 3) := dq_181 (dst 21 rd_prog_14_method_8_code_0 rfl) rfl
theorem dX12_fail_24 : decode cX12_fail 24 = .ok (.return_, 1) := dq_177 (dst 24 rd_prog_14_method_8_code_0 rfl)
theorem lf_X12_figure_1 : ∀ w ∈ ([Cond.fieldLink RX12 108 "StillInAugustModel" "faultAt" "I", Cond.fieldLink RX12 111 "StillInAugustModel" "at" "I", Cond.fieldLink RX12 103 "StillInAugustModel" "length" "I", Cond.fieldLink RX12 16 "StillInAugustModel" "text" "[I", Cond.constantLong RX12 114 (9), Cond.methodLink RX12 73 yX12_in, Cond.static yX12_in, Cond.initialized RX12, Cond.code yX12_in cX12_in 6 (some .boolean), Cond.methodLink RX12 116 yX12_fail, Cond.instanceMethod yX12_fail, Cond.selects RX12 yX12_fail yX12_fail, Cond.code yX12_fail cX12_fail 1 none] : List Cond), w ∈ wsX12_figure := fun _ h => (List.mem_cons_of_mem _ (List.mem_append_left _ h))
theorem lf_X12_figure_2 : ∀ w ∈ wsX120, w ∈ wsX12_figure := fun _ h => (List.mem_cons_of_mem _ (List.mem_append_right _ h))
set_option maxRecDepth 20000 in
theorem ggX12_figure_X12_in : GoodIn wsX12_figure wsX12_in := (gd_cons (lf_X12_figure_1 _ (List.mem_of_getElem? (i := 8) rfl)) rfl (gd_nil _))
set_option maxRecDepth 20000 in
theorem gX12_figure_X12_in : GoodIn wsX12_figure (va_wsS RX12 73 yX12_in wsX12_in) := goodIn_app (gd_cons (lf_X12_figure_1 _ (List.mem_of_getElem? (i := 5) rfl)) rfl (gd_cons (lf_X12_figure_1 _ (List.mem_of_getElem? (i := 6) rfl)) rfl (gd_cons (lf_X12_figure_1 _ (List.mem_of_getElem? (i := 7) rfl)) rfl (gd_nil _)))) ggX12_figure_X12_in
set_option maxRecDepth 20000 in
theorem ggX12_figure_X12_fail : GoodIn wsX12_figure wsX12_fail := (gd_cons (lf_X12_figure_1 _ (List.mem_of_getElem? (i := 12) rfl)) rfl (goodIn_app (gd_cons (lf_X12_figure_1 _ (List.mem_of_getElem? (i := 0) rfl)) rfl (gd_cons (lf_X12_figure_1 _ (List.mem_of_getElem? (i := 1) rfl)) rfl (gd_nil _))) (goodIn_sub lf_X12_figure_2 ga_wsX120)))
set_option maxRecDepth 20000 in
theorem gX12_figure_X12_fail : GoodIn wsX12_figure (wsV RX12 116 RX12 yX12_fail wsX12_fail) := goodIn_app (gd_cons (lf_X12_figure_1 _ (List.mem_of_getElem? (i := 9) rfl)) rfl (gd_cons (lf_X12_figure_1 _ (List.mem_of_getElem? (i := 10) rfl)) rfl (gd_cons (lf_X12_figure_1 _ (List.mem_of_getElem? (i := 11) rfl)) rfl (gd_cons (lf_X12_figure_1 _ (List.mem_of_getElem? (i := 7) rfl)) rfl (gd_nil _))))) ggX12_figure_X12_fail
theorem dX12_figure_0 : decode cX12_figure 0 = .ok (.aload_n 0, 1) := dq_42 (dst 0 rd_prog_14_method_9_code_0 rfl)
theorem dX12_figure_1 : decode cX12_figure 1 = .ok (.getfield 108, 3) := dq_180 (dst 1 rd_prog_14_method_9_code_0 rfl) rfl
theorem dX12_figure_4 : decode cX12_figure 4 = .ok (.bipush (-9), 2) := dq_16 (dst 4 rd_prog_14_method_9_code_0 rfl) (by decide +kernel)
theorem dX12_figure_6 : decode cX12_figure 6 = .ok (.if_icmp .ne 29, 3) := dq_160 (dst 6 rd_prog_14_method_9_code_0 rfl) (by decide +kernel)
theorem dX12_figure_9 : decode cX12_figure 9 = .ok (.aload_n 0, 1) := dq_42 (dst 9 rd_prog_14_method_9_code_0 rfl)
theorem dX12_figure_10 : decode cX12_figure 10 = .ok (.getfield 111, 3) := dq_180 (dst 10 rd_prog_14_method_9_code_0 rfl) rfl
theorem dX12_figure_13 : decode cX12_figure 13 = .ok (.aload_n 0, 1) := dq_42 (dst 13 rd_prog_14_method_9_code_0 rfl)
theorem dX12_figure_14 : decode cX12_figure 14 = .ok (.getfield 103, 3) := dq_180 (dst 14 rd_prog_14_method_9_code_0 rfl) rfl
theorem dX12_figure_17 : decode cX12_figure 17 = .ok (.if_icmp .ge 18, 3) := dq_162 (dst 17 rd_prog_14_method_9_code_0 rfl) (by decide +kernel)
theorem dX12_figure_20 : decode cX12_figure 20 = .ok (.aload_n 0, 1) := dq_42 (dst 20 rd_prog_14_method_9_code_0 rfl)
theorem dX12_figure_21 : decode cX12_figure 21 = .ok (.getfield 16, 3) := dq_180 (dst 21 rd_prog_14_method_9_code_0 rfl) rfl
theorem dX12_figure_24 : decode cX12_figure 24 = .ok (.aload_n 0, 1) := dq_42 (dst 24 rd_prog_14_method_9_code_0 rfl)
theorem dX12_figure_25 : decode cX12_figure 25 = .ok (.getfield 111, 3) := dq_180 (dst 25 rd_prog_14_method_9_code_0 rfl) rfl
theorem dX12_figure_28 : decode cX12_figure 28 = .ok (.iaload, 1) := dq_46 (dst 28 rd_prog_14_method_9_code_0 rfl)
theorem dX12_figure_29 : decode cX12_figure 29 = .ok (.bipush 48, 2) := dq_16 (dst 29 rd_prog_14_method_9_code_0 rfl) (by decide +kernel)
theorem dX12_figure_31 : decode cX12_figure 31 = .ok (.isub, 1) := dq_100 (dst 31 rd_prog_14_method_9_code_0 rfl)
theorem dX12_figure_32 : decode cX12_figure 32 = .ok (.goto 4, 3) := dq_167 (dst 0 rd_prog_14_method_9_code_1 rfl) (by decide +kernel)
theorem dX12_figure_35 : decode cX12_figure 35 = .ok (.iconst (-1), 1) := dq_2 (dst 3 rd_prog_14_method_9_code_1 rfl)
theorem dX12_figure_36 : decode cX12_figure 36 = .ok (.istore_n 2, 1) := dq_61 (dst 4 rd_prog_14_method_9_code_1 rfl)
theorem dX12_figure_37 : decode cX12_figure 37 = .ok (.iload_n 2, 1) := dq_28 (dst 5 rd_prog_14_method_9_code_1 rfl)
theorem dX12_figure_38 : decode cX12_figure 38 = .ok (.i2l, 1) := dq_133 (dst 6 rd_prog_14_method_9_code_1 rfl)
theorem dX12_figure_39 : decode cX12_figure 39 = .ok (.lconst 0, 1) := dq_9 (dst 7 rd_prog_14_method_9_code_1 rfl)
theorem dX12_figure_40 : decode cX12_figure 40 = .ok (.ldc2_w 114, 3) := dq_20 (dst 8 rd_prog_14_method_9_code_1 rfl) rfl
theorem dX12_figure_43 : decode cX12_figure 43 = .ok (.invokestatic 73, 3) := dq_184 (dst 11 rd_prog_14_method_9_code_1 rfl) rfl
theorem dX12_figure_46 : decode cX12_figure 46 = .ok (.ifCond .eq 11, 3) := dq_153 (dst 14 rd_prog_14_method_9_code_1 rfl) (by decide +kernel)
theorem dX12_figure_49 : decode cX12_figure 49 = .ok (.iload_n 1, 1) := dq_27 (dst 17 rd_prog_14_method_9_code_1 rfl)
theorem dX12_figure_50 : decode cX12_figure 50 = .ok (.iload_n 2, 1) := dq_28 (dst 18 rd_prog_14_method_9_code_1 rfl)
theorem dX12_figure_51 : decode cX12_figure 51 = .ok (.ishr, 1) := dq_122 (dst 19 rd_prog_14_method_9_code_1 rfl)
theorem dX12_figure_52 : decode cX12_figure 52 = .ok (.iconst 1, 1) := dq_4 (dst 20 rd_prog_14_method_9_code_1 rfl)
theorem dX12_figure_53 : decode cX12_figure 53 = .ok (.iand, 1) := dq_126 (dst 21 rd_prog_14_method_9_code_1 rfl)
theorem dX12_figure_54 : decode cX12_figure 54 = .ok (.ifCond .ne 9, 3) := dq_154 (dst 22 rd_prog_14_method_9_code_1 rfl) (by decide +kernel)
theorem dX12_figure_57 : decode cX12_figure 57 = .ok (.aload_n 0, 1) := dq_42 (dst 25 rd_prog_14_method_9_code_1 rfl)
theorem dX12_figure_58 : decode cX12_figure 58 = .ok (.invokevirtual 116, 3) := dq_182 (dst 26 rd_prog_14_method_9_code_1 rfl) rfl
theorem dX12_figure_61 : decode cX12_figure 61 = .ok (.iconst 0, 1) := dq_3 (dst 29 rd_prog_14_method_9_code_1 rfl)
theorem dX12_figure_62 : decode cX12_figure 62 = .ok (.ireturn, 1) := dq_172 (dst 30 rd_prog_14_method_9_code_1 rfl)
theorem dX12_figure_63 : decode cX12_figure 63 = .ok (.aload_n 0, 1) := dq_42 (dst 31 rd_prog_14_method_9_code_1 rfl)
theorem dX12_figure_64 : decode cX12_figure 64 = .ok (.dup, 1) := dq_89 (dst 0 rd_prog_14_method_9_code_2 rfl)
theorem dX12_figure_65 : decode cX12_figure 65 = .ok (.getfield 111, 3) := dq_180 (dst 1 rd_prog_14_method_9_code_2 rfl) rfl
theorem dX12_figure_68 : decode cX12_figure 68 = .ok (.iconst 1, 1) := dq_4 (dst 4 rd_prog_14_method_9_code_2 rfl)
theorem dX12_figure_69 : decode cX12_figure 69 = .ok (.iadd, 1) := dq_96 (dst 5 rd_prog_14_method_9_code_2 rfl)
theorem dX12_figure_70 : decode cX12_figure 70 = .ok (.putfield 111, 3) := dq_181 (dst 6 rd_prog_14_method_9_code_2 rfl) rfl
theorem dX12_figure_73 : decode cX12_figure 73 = .ok (.iload_n 2, 1) := dq_28 (dst 9 rd_prog_14_method_9_code_2 rfl)
theorem dX12_figure_74 : decode cX12_figure 74 = .ok (.ireturn, 1) := dq_172 (dst 10 rd_prog_14_method_9_code_2 rfl)
theorem lf_X12_readHouse_1 : ∀ w ∈ wsX12_readHouse_r1, w ∈ wsX12_readHouse := fun _ h => (List.mem_cons_of_mem _ (List.mem_append_left _ (List.mem_append_left _ h)))
theorem lf_X12_readHouse_2 : ∀ w ∈ wsX12_readHouse_r2, w ∈ wsX12_readHouse := fun _ h => (List.mem_cons_of_mem _ (List.mem_append_left _ (List.mem_append_right _ h)))
theorem lf_X12_readHouse_3 : ∀ w ∈ wsX120, w ∈ wsX12_readHouse := fun _ h => (List.mem_cons_of_mem _ (List.mem_append_right _ h))
set_option maxRecDepth 20000 in
theorem ggX12_readHouse_X12_blank : GoodIn wsX12_readHouse wsX12_blank := (gd_cons (lf_X12_readHouse_1 _ (List.mem_of_getElem? (i := 9) rfl)) rfl (goodIn_app (gd_cons (lf_X12_readHouse_1 _ (List.mem_of_getElem? (i := 4) rfl)) rfl (gd_cons (lf_X12_readHouse_1 _ (List.mem_of_getElem? (i := 10) rfl)) rfl (gd_cons (lf_X12_readHouse_1 _ (List.mem_of_getElem? (i := 11) rfl)) rfl (gd_cons (lf_X12_readHouse_1 _ (List.mem_of_getElem? (i := 12) rfl)) rfl (gd_cons (lf_X12_readHouse_1 _ (List.mem_of_getElem? (i := 13) rfl)) rfl (gd_cons (lf_X12_readHouse_1 _ (List.mem_of_getElem? (i := 14) rfl)) rfl (gd_cons (lf_X12_readHouse_1 _ (List.mem_of_getElem? (i := 15) rfl)) rfl (gd_cons (lf_X12_readHouse_1 _ (List.mem_of_getElem? (i := 16) rfl)) rfl (gd_cons (lf_X12_readHouse_1 _ (List.mem_of_getElem? (i := 17) rfl)) rfl (gd_cons (lf_X12_readHouse_1 _ (List.mem_of_getElem? (i := 18) rfl)) rfl (gd_cons (lf_X12_readHouse_1 _ (List.mem_of_getElem? (i := 19) rfl)) rfl (gd_cons (lf_X12_readHouse_1 _ (List.mem_of_getElem? (i := 20) rfl)) rfl (gd_cons (lf_X12_readHouse_1 _ (List.mem_of_getElem? (i := 21) rfl)) rfl (gd_cons (lf_X12_readHouse_1 _ (List.mem_of_getElem? (i := 22) rfl)) rfl (gd_cons (lf_X12_readHouse_1 _ (List.mem_of_getElem? (i := 8) rfl)) rfl (gd_cons (lf_X12_readHouse_1 _ (List.mem_of_getElem? (i := 23) rfl)) rfl (gd_nil _))))))))))))))))) (goodIn_sub lf_X12_readHouse_3 ga_wsX120)))
set_option maxRecDepth 20000 in
theorem gX12_readHouse_X12_blank : GoodIn wsX12_readHouse (wsV RX12 63 RX12 yX12_blank wsX12_blank) := goodIn_app (gd_cons (lf_X12_readHouse_1 _ (List.mem_of_getElem? (i := 5) rfl)) rfl (gd_cons (lf_X12_readHouse_1 _ (List.mem_of_getElem? (i := 6) rfl)) rfl (gd_cons (lf_X12_readHouse_1 _ (List.mem_of_getElem? (i := 7) rfl)) rfl (gd_cons (lf_X12_readHouse_1 _ (List.mem_of_getElem? (i := 8) rfl)) rfl (gd_nil _))))) ggX12_readHouse_X12_blank
set_option maxRecDepth 20000 in
theorem ggX12_readHouse_X12_figure : GoodIn wsX12_readHouse wsX12_figure := (gd_cons (lf_X12_readHouse_2 _ (List.mem_of_getElem? (i := 3) rfl)) rfl (goodIn_app (gd_cons (lf_X12_readHouse_1 _ (List.mem_of_getElem? (i := 1) rfl)) rfl (gd_cons (lf_X12_readHouse_1 _ (List.mem_of_getElem? (i := 0) rfl)) rfl (gd_cons (lf_X12_readHouse_1 _ (List.mem_of_getElem? (i := 2) rfl)) rfl (gd_cons (lf_X12_readHouse_1 _ (List.mem_of_getElem? (i := 3) rfl)) rfl (gd_cons (lf_X12_readHouse_2 _ (List.mem_of_getElem? (i := 4) rfl)) rfl (gd_cons (lf_X12_readHouse_1 _ (List.mem_of_getElem? (i := 21) rfl)) rfl (gd_cons (lf_X12_readHouse_1 _ (List.mem_of_getElem? (i := 22) rfl)) rfl (gd_cons (lf_X12_readHouse_1 _ (List.mem_of_getElem? (i := 8) rfl)) rfl (gd_cons (lf_X12_readHouse_1 _ (List.mem_of_getElem? (i := 23) rfl)) rfl (gd_cons (lf_X12_readHouse_2 _ (List.mem_of_getElem? (i := 5) rfl)) rfl (gd_cons (lf_X12_readHouse_2 _ (List.mem_of_getElem? (i := 6) rfl)) rfl (gd_cons (lf_X12_readHouse_2 _ (List.mem_of_getElem? (i := 7) rfl)) rfl (gd_cons (lf_X12_readHouse_2 _ (List.mem_of_getElem? (i := 8) rfl)) rfl (gd_nil _)))))))))))))) (goodIn_sub lf_X12_readHouse_3 ga_wsX120)))
set_option maxRecDepth 20000 in
theorem gX12_readHouse_X12_figure : GoodIn wsX12_readHouse (wsV RX12 119 RX12 yX12_figure wsX12_figure) := goodIn_app (gd_cons (lf_X12_readHouse_2 _ (List.mem_of_getElem? (i := 0) rfl)) rfl (gd_cons (lf_X12_readHouse_2 _ (List.mem_of_getElem? (i := 1) rfl)) rfl (gd_cons (lf_X12_readHouse_2 _ (List.mem_of_getElem? (i := 2) rfl)) rfl (gd_cons (lf_X12_readHouse_1 _ (List.mem_of_getElem? (i := 8) rfl)) rfl (gd_nil _))))) ggX12_readHouse_X12_figure
set_option maxRecDepth 20000 in
theorem ggX12_readHouse_X12_readPart : GoodIn wsX12_readHouse wsX12_readPart := (gd_cons (lf_X12_readHouse_2 _ (List.mem_of_getElem? (i := 12) rfl)) rfl (goodIn_app (goodIn_app (gd_cons (lf_X12_readHouse_1 _ (List.mem_of_getElem? (i := 4) rfl)) rfl (gd_cons (lf_X12_readHouse_1 _ (List.mem_of_getElem? (i := 16) rfl)) rfl (gd_cons (lf_X12_readHouse_1 _ (List.mem_of_getElem? (i := 0) rfl)) rfl (gd_cons (lf_X12_readHouse_1 _ (List.mem_of_getElem? (i := 17) rfl)) rfl (gd_cons (lf_X12_readHouse_1 _ (List.mem_of_getElem? (i := 18) rfl)) rfl (gd_cons (lf_X12_readHouse_1 _ (List.mem_of_getElem? (i := 19) rfl)) rfl (gd_cons (lf_X12_readHouse_1 _ (List.mem_of_getElem? (i := 20) rfl)) rfl (gd_cons (lf_X12_readHouse_2 _ (List.mem_of_getElem? (i := 13) rfl)) rfl (gd_cons (lf_X12_readHouse_2 _ (List.mem_of_getElem? (i := 14) rfl)) rfl (gd_cons (lf_X12_readHouse_1 _ (List.mem_of_getElem? (i := 8) rfl)) rfl (gd_cons (lf_X12_readHouse_2 _ (List.mem_of_getElem? (i := 15) rfl)) rfl (gd_cons (lf_X12_readHouse_2 _ (List.mem_of_getElem? (i := 0) rfl)) rfl (gd_cons (lf_X12_readHouse_2 _ (List.mem_of_getElem? (i := 1) rfl)) rfl (gd_cons (lf_X12_readHouse_2 _ (List.mem_of_getElem? (i := 2) rfl)) rfl (gd_cons (lf_X12_readHouse_2 _ (List.mem_of_getElem? (i := 3) rfl)) rfl (gd_cons (lf_X12_readHouse_1 _ (List.mem_of_getElem? (i := 1) rfl)) rfl (gd_cons (lf_X12_readHouse_1 _ (List.mem_of_getElem? (i := 2) rfl)) rfl (gd_cons (lf_X12_readHouse_1 _ (List.mem_of_getElem? (i := 3) rfl)) rfl (gd_cons (lf_X12_readHouse_2 _ (List.mem_of_getElem? (i := 4) rfl)) rfl (gd_cons (lf_X12_readHouse_1 _ (List.mem_of_getElem? (i := 21) rfl)) rfl (gd_cons (lf_X12_readHouse_1 _ (List.mem_of_getElem? (i := 22) rfl)) rfl (gd_cons (lf_X12_readHouse_1 _ (List.mem_of_getElem? (i := 23) rfl)) rfl (gd_cons (lf_X12_readHouse_2 _ (List.mem_of_getElem? (i := 5) rfl)) rfl (gd_cons (lf_X12_readHouse_2 _ (List.mem_of_getElem? (i := 6) rfl)) rfl (gd_nil _))))))))))))))))))))))))) (gd_cons (lf_X12_readHouse_2 _ (List.mem_of_getElem? (i := 7) rfl)) rfl (gd_cons (lf_X12_readHouse_2 _ (List.mem_of_getElem? (i := 8) rfl)) rfl (gd_nil _)))) (goodIn_sub lf_X12_readHouse_3 ga_wsX120)))
set_option maxRecDepth 20000 in
theorem gX12_readHouse_X12_readPart : GoodIn wsX12_readHouse (wsV RX12 123 RX12 yX12_readPart wsX12_readPart) := goodIn_app (gd_cons (lf_X12_readHouse_2 _ (List.mem_of_getElem? (i := 9) rfl)) rfl (gd_cons (lf_X12_readHouse_2 _ (List.mem_of_getElem? (i := 10) rfl)) rfl (gd_cons (lf_X12_readHouse_2 _ (List.mem_of_getElem? (i := 11) rfl)) rfl (gd_cons (lf_X12_readHouse_1 _ (List.mem_of_getElem? (i := 8) rfl)) rfl (gd_nil _))))) ggX12_readHouse_X12_readPart
theorem dX12_readHouse_0 : decode cX12_readHouse 0 = .ok (.aload_n 0, 1) := dq_42 (dst 0 rd_prog_14_method_10_code_0 rfl)
theorem dX12_readHouse_1 : decode cX12_readHouse 1 = .ok (.invokevirtual 63, 3) := dq_182 (dst 1 rd_prog_14_method_10_code_0 rfl) rfl
theorem dX12_readHouse_4 : decode cX12_readHouse 4 = .ok (.aload_n 0, 1) := dq_42 (dst 4 rd_prog_14_method_10_code_0 rfl)
theorem dX12_readHouse_5 : decode cX12_readHouse 5 = .ok (.iconst 0, 1) := dq_3 (dst 5 rd_prog_14_method_10_code_0 rfl)
theorem dX12_readHouse_6 : decode cX12_readHouse 6 = .ok (.putfield 111, 3) := dq_181 (dst 6 rd_prog_14_method_10_code_0 rfl) rfl
theorem dX12_readHouse_9 : decode cX12_readHouse 9 = .ok (.aload_n 0, 1) := dq_42 (dst 9 rd_prog_14_method_10_code_0 rfl)
theorem dX12_readHouse_10 : decode cX12_readHouse 10 = .ok (.bipush (-9), 2) := dq_16 (dst 10 rd_prog_14_method_10_code_0 rfl) (by decide +kernel)
theorem dX12_readHouse_12 : decode cX12_readHouse 12 = .ok (.putfield 108, 3) := dq_181 (dst 12 rd_prog_14_method_10_code_0 rfl) rfl
theorem dX12_readHouse_15 : decode cX12_readHouse 15 = .ok (.aload_n 0, 1) := dq_42 (dst 15 rd_prog_14_method_10_code_0 rfl)
theorem dX12_readHouse_16 : decode cX12_readHouse 16 = .ok (.getfield 103, 3) := dq_180 (dst 16 rd_prog_14_method_10_code_0 rfl) rfl
theorem dX12_readHouse_19 : decode cX12_readHouse 19 = .ok (.ifCond .eq 14, 3) := dq_153 (dst 19 rd_prog_14_method_10_code_0 rfl) (by decide +kernel)
theorem dX12_readHouse_22 : decode cX12_readHouse 22 = .ok (.aload_n 0, 1) := dq_42 (dst 22 rd_prog_14_method_10_code_0 rfl)
theorem dX12_readHouse_23 : decode cX12_readHouse 23 = .ok (.getfield 16, 3) := dq_180 (dst 23 rd_prog_14_method_10_code_0 rfl) rfl
theorem dX12_readHouse_26 : decode cX12_readHouse 26 = .ok (.iconst 0, 1) := dq_3 (dst 26 rd_prog_14_method_10_code_0 rfl)
theorem dX12_readHouse_27 : decode cX12_readHouse 27 = .ok (.iaload, 1) := dq_46 (dst 27 rd_prog_14_method_10_code_0 rfl)
theorem dX12_readHouse_28 : decode cX12_readHouse 28 = .ok (.bipush 78, 2) := dq_16 (dst 28 rd_prog_14_method_10_code_0 rfl) (by decide +kernel)
theorem dX12_readHouse_30 : decode cX12_readHouse 30 = .ok (.if_icmp .eq 5, 3) := dq_159 (dst 30 rd_prog_14_method_10_code_0 rfl) (by decide +kernel)
theorem dX12_readHouse_33 : decode cX12_readHouse 33 = .ok (.iconst 0, 1) := dq_3 (dst 1 rd_prog_14_method_10_code_1 rfl)
theorem dX12_readHouse_34 : decode cX12_readHouse 34 = .ok (.ireturn, 1) := dq_172 (dst 2 rd_prog_14_method_10_code_1 rfl)
theorem dX12_readHouse_35 : decode cX12_readHouse 35 = .ok (.aload_n 0, 1) := dq_42 (dst 3 rd_prog_14_method_10_code_1 rfl)
theorem dX12_readHouse_36 : decode cX12_readHouse 36 = .ok (.iconst 1, 1) := dq_4 (dst 4 rd_prog_14_method_10_code_1 rfl)
theorem dX12_readHouse_37 : decode cX12_readHouse 37 = .ok (.putfield 111, 3) := dq_181 (dst 5 rd_prog_14_method_10_code_1 rfl) rfl
theorem dX12_readHouse_40 : decode cX12_readHouse 40 = .ok (.aload_n 0, 1) := dq_42 (dst 8 rd_prog_14_method_10_code_1 rfl)
theorem dX12_readHouse_41 : decode cX12_readHouse 41 = .ok (.getfield 7, 3) := dq_180 (dst 9 rd_prog_14_method_10_code_1 rfl) rfl
theorem dX12_readHouse_44 : decode cX12_readHouse 44 = .ok (.iconst 0, 1) := dq_3 (dst 12 rd_prog_14_method_10_code_1 rfl)
theorem dX12_readHouse_45 : decode cX12_readHouse 45 = .ok (.aload_n 0, 1) := dq_42 (dst 13 rd_prog_14_method_10_code_1 rfl)
theorem dX12_readHouse_46 : decode cX12_readHouse 46 = .ok (.bipush 62, 2) := dq_16 (dst 14 rd_prog_14_method_10_code_1 rfl) (by decide +kernel)
theorem dX12_readHouse_48 : decode cX12_readHouse 48 = .ok (.invokevirtual 119, 3) := dq_182 (dst 16 rd_prog_14_method_10_code_1 rfl) rfl
theorem dX12_readHouse_51 : decode cX12_readHouse 51 = .ok (.iastore, 1) := dq_79 (dst 19 rd_prog_14_method_10_code_1 rfl)
theorem dX12_readHouse_52 : decode cX12_readHouse 52 = .ok (.aload_n 0, 1) := dq_42 (dst 20 rd_prog_14_method_10_code_1 rfl)
theorem dX12_readHouse_53 : decode cX12_readHouse 53 = .ok (.getfield 108, 3) := dq_180 (dst 21 rd_prog_14_method_10_code_1 rfl) rfl
theorem dX12_readHouse_56 : decode cX12_readHouse 56 = .ok (.bipush (-9), 2) := dq_16 (dst 24 rd_prog_14_method_10_code_1 rfl) (by decide +kernel)
theorem dX12_readHouse_58 : decode cX12_readHouse 58 = .ok (.if_icmp .ne 30, 3) := dq_160 (dst 26 rd_prog_14_method_10_code_1 rfl) (by decide +kernel)
theorem dX12_readHouse_61 : decode cX12_readHouse 61 = .ok (.aload_n 0, 1) := dq_42 (dst 29 rd_prog_14_method_10_code_1 rfl)
theorem dX12_readHouse_62 : decode cX12_readHouse 62 = .ok (.getfield 111, 3) := dq_180 (dst 30 rd_prog_14_method_10_code_1 rfl) rfl
theorem dX12_readHouse_65 : decode cX12_readHouse 65 = .ok (.aload_n 0, 1) := dq_42 (dst 1 rd_prog_14_method_10_code_2 rfl)
theorem dX12_readHouse_66 : decode cX12_readHouse 66 = .ok (.getfield 103, 3) := dq_180 (dst 2 rd_prog_14_method_10_code_2 rfl) rfl
theorem dX12_readHouse_69 : decode cX12_readHouse 69 = .ok (.if_icmp .ge 19, 3) := dq_162 (dst 5 rd_prog_14_method_10_code_2 rfl) (by decide +kernel)
theorem dX12_readHouse_72 : decode cX12_readHouse 72 = .ok (.aload_n 0, 1) := dq_42 (dst 8 rd_prog_14_method_10_code_2 rfl)
theorem dX12_readHouse_73 : decode cX12_readHouse 73 = .ok (.aload_n 0, 1) := dq_42 (dst 9 rd_prog_14_method_10_code_2 rfl)
theorem dX12_readHouse_74 : decode cX12_readHouse 74 = .ok (.getfield 16, 3) := dq_180 (dst 10 rd_prog_14_method_10_code_2 rfl) rfl
theorem dX12_readHouse_77 : decode cX12_readHouse 77 = .ok (.aload_n 0, 1) := dq_42 (dst 13 rd_prog_14_method_10_code_2 rfl)
theorem dX12_readHouse_78 : decode cX12_readHouse 78 = .ok (.getfield 111, 3) := dq_180 (dst 14 rd_prog_14_method_10_code_2 rfl) rfl
theorem dX12_readHouse_81 : decode cX12_readHouse 81 = .ok (.iaload, 1) := dq_46 (dst 17 rd_prog_14_method_10_code_2 rfl)
theorem dX12_readHouse_82 : decode cX12_readHouse 82 = .ok (.invokevirtual 123, 3) := dq_182 (dst 18 rd_prog_14_method_10_code_2 rfl) rfl
theorem dX12_readHouse_85 : decode cX12_readHouse 85 = .ok (.goto (-33), 3) := dq_167 (dst 21 rd_prog_14_method_10_code_2 rfl) (by decide +kernel)
theorem dX12_readHouse_88 : decode cX12_readHouse 88 = .ok (.aload_n 0, 1) := dq_42 (dst 24 rd_prog_14_method_10_code_2 rfl)
theorem dX12_readHouse_89 : decode cX12_readHouse 89 = .ok (.getfield 108, 3) := dq_180 (dst 25 rd_prog_14_method_10_code_2 rfl) rfl
theorem dX12_readHouse_92 : decode cX12_readHouse 92 = .ok (.ireturn, 1) := dq_172 (dst 28 rd_prog_14_method_10_code_2 rfl)
theorem dX12_once_0 : decode cX12_once 0 = .ok (.iload_n 0, 1) := dq_26 (dst 0 rd_prog_14_method_11_code_0 rfl)
theorem dX12_once_1 : decode cX12_once 1 = .ok (.bipush 72, 2) := dq_16 (dst 1 rd_prog_14_method_11_code_0 rfl) (by decide +kernel)
theorem dX12_once_3 : decode cX12_once 3 = .ok (.if_icmp .ne 7, 3) := dq_160 (dst 3 rd_prog_14_method_11_code_0 rfl) (by decide +kernel)
theorem dX12_once_6 : decode cX12_once 6 = .ok (.iconst 0, 1) := dq_3 (dst 6 rd_prog_14_method_11_code_0 rfl)
theorem dX12_once_7 : decode cX12_once 7 = .ok (.goto 66, 3) := dq_167 (dst 7 rd_prog_14_method_11_code_0 rfl) (by decide +kernel)
theorem dX12_once_10 : decode cX12_once 10 = .ok (.iload_n 0, 1) := dq_26 (dst 10 rd_prog_14_method_11_code_0 rfl)
theorem dX12_once_11 : decode cX12_once 11 = .ok (.bipush 80, 2) := dq_16 (dst 11 rd_prog_14_method_11_code_0 rfl) (by decide +kernel)
theorem dX12_once_13 : decode cX12_once 13 = .ok (.if_icmp .ne 7, 3) := dq_160 (dst 13 rd_prog_14_method_11_code_0 rfl) (by decide +kernel)
theorem dX12_once_16 : decode cX12_once 16 = .ok (.iconst 1, 1) := dq_4 (dst 16 rd_prog_14_method_11_code_0 rfl)
theorem dX12_once_17 : decode cX12_once 17 = .ok (.goto 56, 3) := dq_167 (dst 17 rd_prog_14_method_11_code_0 rfl) (by decide +kernel)
theorem dX12_once_20 : decode cX12_once 20 = .ok (.iload_n 0, 1) := dq_26 (dst 20 rd_prog_14_method_11_code_0 rfl)
theorem dX12_once_21 : decode cX12_once 21 = .ok (.bipush 83, 2) := dq_16 (dst 21 rd_prog_14_method_11_code_0 rfl) (by decide +kernel)
theorem dX12_once_23 : decode cX12_once 23 = .ok (.if_icmp .ne 7, 3) := dq_160 (dst 23 rd_prog_14_method_11_code_0 rfl) (by decide +kernel)
theorem dX12_once_26 : decode cX12_once 26 = .ok (.iconst 2, 1) := dq_5 (dst 26 rd_prog_14_method_11_code_0 rfl)
theorem dX12_once_27 : decode cX12_once 27 = .ok (.goto 46, 3) := dq_167 (dst 27 rd_prog_14_method_11_code_0 rfl) (by decide +kernel)
theorem dX12_once_30 : decode cX12_once 30 = .ok (.iload_n 0, 1) := dq_26 (dst 30 rd_prog_14_method_11_code_0 rfl)
theorem dX12_once_31 : decode cX12_once 31 = .ok (.bipush 71, 2) := dq_16 (dst 31 rd_prog_14_method_11_code_0 rfl) (by decide +kernel)
theorem dX12_once_33 : decode cX12_once 33 = .ok (.if_icmp .ne 7, 3) := dq_160 (dst 1 rd_prog_14_method_11_code_1 rfl) (by decide +kernel)
theorem dX12_once_36 : decode cX12_once 36 = .ok (.iconst 3, 1) := dq_6 (dst 4 rd_prog_14_method_11_code_1 rfl)
theorem dX12_once_37 : decode cX12_once 37 = .ok (.goto 36, 3) := dq_167 (dst 5 rd_prog_14_method_11_code_1 rfl) (by decide +kernel)
theorem dX12_once_40 : decode cX12_once 40 = .ok (.iload_n 0, 1) := dq_26 (dst 8 rd_prog_14_method_11_code_1 rfl)
theorem dX12_once_41 : decode cX12_once 41 = .ok (.bipush 84, 2) := dq_16 (dst 9 rd_prog_14_method_11_code_1 rfl) (by decide +kernel)
theorem dX12_once_43 : decode cX12_once 43 = .ok (.if_icmp .ne 7, 3) := dq_160 (dst 11 rd_prog_14_method_11_code_1 rfl) (by decide +kernel)
theorem dX12_once_46 : decode cX12_once 46 = .ok (.iconst 4, 1) := dq_7 (dst 14 rd_prog_14_method_11_code_1 rfl)
theorem dX12_once_47 : decode cX12_once 47 = .ok (.goto 26, 3) := dq_167 (dst 15 rd_prog_14_method_11_code_1 rfl) (by decide +kernel)
theorem dX12_once_50 : decode cX12_once 50 = .ok (.iload_n 0, 1) := dq_26 (dst 18 rd_prog_14_method_11_code_1 rfl)
theorem dX12_once_51 : decode cX12_once 51 = .ok (.bipush 65, 2) := dq_16 (dst 19 rd_prog_14_method_11_code_1 rfl) (by decide +kernel)
theorem dX12_once_53 : decode cX12_once 53 = .ok (.if_icmp .ne 7, 3) := dq_160 (dst 21 rd_prog_14_method_11_code_1 rfl) (by decide +kernel)
theorem dX12_once_56 : decode cX12_once 56 = .ok (.iconst 5, 1) := dq_8 (dst 24 rd_prog_14_method_11_code_1 rfl)
theorem dX12_once_57 : decode cX12_once 57 = .ok (.goto 16, 3) := dq_167 (dst 25 rd_prog_14_method_11_code_1 rfl) (by decide +kernel)
theorem dX12_once_60 : decode cX12_once 60 = .ok (.iload_n 0, 1) := dq_26 (dst 28 rd_prog_14_method_11_code_1 rfl)
theorem dX12_once_61 : decode cX12_once 61 = .ok (.bipush 66, 2) := dq_16 (dst 29 rd_prog_14_method_11_code_1 rfl) (by decide +kernel)
theorem dX12_once_63 : decode cX12_once 63 = .ok (.if_icmp .ne 8, 3) := dq_160 (dst 31 rd_prog_14_method_11_code_1 rfl) (by decide +kernel)
theorem dX12_once_66 : decode cX12_once 66 = .ok (.bipush 6, 2) := dq_16 (dst 2 rd_prog_14_method_11_code_2 rfl) (by decide +kernel)
theorem dX12_once_68 : decode cX12_once 68 = .ok (.goto 5, 3) := dq_167 (dst 4 rd_prog_14_method_11_code_2 rfl) (by decide +kernel)
theorem dX12_once_71 : decode cX12_once 71 = .ok (.bipush (-9), 2) := dq_16 (dst 7 rd_prog_14_method_11_code_2 rfl) (by decide +kernel)
theorem dX12_once_73 : decode cX12_once 73 = .ok (.ireturn, 1) := dq_172 (dst 9 rd_prog_14_method_11_code_2 rfl)
theorem lf_X12_readPart_1 : ∀ w ∈ wsX12_readPart_r1, w ∈ wsX12_readPart := fun _ h => (List.mem_cons_of_mem _ (List.mem_append_left _ (List.mem_append_left _ h)))
theorem lf_X12_readPart_2 : ∀ w ∈ wsX12_readPart_r2, w ∈ wsX12_readPart := fun _ h => (List.mem_cons_of_mem _ (List.mem_append_left _ (List.mem_append_right _ h)))
theorem lf_X12_readPart_3 : ∀ w ∈ wsX120, w ∈ wsX12_readPart := fun _ h => (List.mem_cons_of_mem _ (List.mem_append_right _ h))
set_option maxRecDepth 20000 in
theorem ggX12_readPart_X12_once : GoodIn wsX12_readPart wsX12_once := (gd_cons (lf_X12_readPart_1 _ (List.mem_of_getElem? (i := 10) rfl)) rfl (gd_nil _))
set_option maxRecDepth 20000 in
theorem gX12_readPart_X12_once : GoodIn wsX12_readPart (va_wsS RX12 127 yX12_once wsX12_once) := goodIn_app (gd_cons (lf_X12_readPart_1 _ (List.mem_of_getElem? (i := 7) rfl)) rfl (gd_cons (lf_X12_readPart_1 _ (List.mem_of_getElem? (i := 8) rfl)) rfl (gd_cons (lf_X12_readPart_1 _ (List.mem_of_getElem? (i := 9) rfl)) rfl (gd_nil _)))) ggX12_readPart_X12_once
set_option maxRecDepth 20000 in
theorem ggX12_readPart_X12_figure : GoodIn wsX12_readPart wsX12_figure := (gd_cons (lf_X12_readPart_1 _ (List.mem_of_getElem? (i := 14) rfl)) rfl (goodIn_app (gd_cons (lf_X12_readPart_1 _ (List.mem_of_getElem? (i := 15) rfl)) rfl (gd_cons (lf_X12_readPart_1 _ (List.mem_of_getElem? (i := 2) rfl)) rfl (gd_cons (lf_X12_readPart_1 _ (List.mem_of_getElem? (i := 16) rfl)) rfl (gd_cons (lf_X12_readPart_1 _ (List.mem_of_getElem? (i := 17) rfl)) rfl (gd_cons (lf_X12_readPart_1 _ (List.mem_of_getElem? (i := 18) rfl)) rfl (gd_cons (lf_X12_readPart_1 _ (List.mem_of_getElem? (i := 19) rfl)) rfl (gd_cons (lf_X12_readPart_1 _ (List.mem_of_getElem? (i := 20) rfl)) rfl (gd_cons (lf_X12_readPart_1 _ (List.mem_of_getElem? (i := 9) rfl)) rfl (gd_cons (lf_X12_readPart_1 _ (List.mem_of_getElem? (i := 21) rfl)) rfl (gd_cons (lf_X12_readPart_1 _ (List.mem_of_getElem? (i := 22) rfl)) rfl (gd_cons (lf_X12_readPart_1 _ (List.mem_of_getElem? (i := 23) rfl)) rfl (gd_cons (lf_X12_readPart_2 _ (List.mem_of_getElem? (i := 0) rfl)) rfl (gd_cons (lf_X12_readPart_2 _ (List.mem_of_getElem? (i := 1) rfl)) rfl (gd_nil _)))))))))))))) (goodIn_sub lf_X12_readPart_3 ga_wsX120)))
set_option maxRecDepth 20000 in
theorem gX12_readPart_X12_figure : GoodIn wsX12_readPart (wsV RX12 119 RX12 yX12_figure wsX12_figure) := goodIn_app (gd_cons (lf_X12_readPart_1 _ (List.mem_of_getElem? (i := 11) rfl)) rfl (gd_cons (lf_X12_readPart_1 _ (List.mem_of_getElem? (i := 12) rfl)) rfl (gd_cons (lf_X12_readPart_1 _ (List.mem_of_getElem? (i := 13) rfl)) rfl (gd_cons (lf_X12_readPart_1 _ (List.mem_of_getElem? (i := 9) rfl)) rfl (gd_nil _))))) ggX12_readPart_X12_figure
set_option maxRecDepth 20000 in
theorem ggX12_readPart_X12_fail : GoodIn wsX12_readPart wsX12_fail := (gd_cons (lf_X12_readPart_2 _ (List.mem_of_getElem? (i := 1) rfl)) rfl (goodIn_app (gd_cons (lf_X12_readPart_1 _ (List.mem_of_getElem? (i := 15) rfl)) rfl (gd_cons (lf_X12_readPart_1 _ (List.mem_of_getElem? (i := 2) rfl)) rfl (gd_nil _))) (goodIn_sub lf_X12_readPart_3 ga_wsX120)))
set_option maxRecDepth 20000 in
theorem gX12_readPart_X12_fail : GoodIn wsX12_readPart (wsV RX12 116 RX12 yX12_fail wsX12_fail) := goodIn_app (gd_cons (lf_X12_readPart_1 _ (List.mem_of_getElem? (i := 22) rfl)) rfl (gd_cons (lf_X12_readPart_1 _ (List.mem_of_getElem? (i := 23) rfl)) rfl (gd_cons (lf_X12_readPart_2 _ (List.mem_of_getElem? (i := 0) rfl)) rfl (gd_cons (lf_X12_readPart_1 _ (List.mem_of_getElem? (i := 9) rfl)) rfl (gd_nil _))))) ggX12_readPart_X12_fail
theorem dX12_readPart_0 : decode cX12_readPart 0 = .ok (.iconst 1, 1) := dq_4 (dst 0 rd_prog_14_method_12_code_0 rfl)
theorem dX12_readPart_1 : decode cX12_readPart 1 = .ok (.aload_n 0, 1) := dq_42 (dst 1 rd_prog_14_method_12_code_0 rfl)
theorem dX12_readPart_2 : decode cX12_readPart 2 = .ok (.getfield 7, 3) := dq_180 (dst 2 rd_prog_14_method_12_code_0 rfl) rfl
theorem dX12_readPart_5 : decode cX12_readPart 5 = .ok (.iconst 0, 1) := dq_3 (dst 5 rd_prog_14_method_12_code_0 rfl)
theorem dX12_readPart_6 : decode cX12_readPart 6 = .ok (.iaload, 1) := dq_46 (dst 6 rd_prog_14_method_12_code_0 rfl)
theorem dX12_readPart_7 : decode cX12_readPart 7 = .ok (.ishl, 1) := dq_120 (dst 7 rd_prog_14_method_12_code_0 rfl)
theorem dX12_readPart_8 : decode cX12_readPart 8 = .ok (.iconst 1, 1) := dq_4 (dst 8 rd_prog_14_method_12_code_0 rfl)
theorem dX12_readPart_9 : decode cX12_readPart 9 = .ok (.isub, 1) := dq_100 (dst 9 rd_prog_14_method_12_code_0 rfl)
theorem dX12_readPart_10 : decode cX12_readPart 10 = .ok (.istore_n 2, 1) := dq_61 (dst 10 rd_prog_14_method_12_code_0 rfl)
theorem dX12_readPart_11 : decode cX12_readPart 11 = .ok (.iload_n 1, 1) := dq_27 (dst 11 rd_prog_14_method_12_code_0 rfl)
theorem dX12_readPart_12 : decode cX12_readPart 12 = .ok (.invokestatic 127, 3) := dq_184 (dst 12 rd_prog_14_method_12_code_0 rfl) rfl
theorem dX12_readPart_15 : decode cX12_readPart 15 = .ok (.istore_n 3, 1) := dq_62 (dst 15 rd_prog_14_method_12_code_0 rfl)
theorem dX12_readPart_16 : decode cX12_readPart 16 = .ok (.iload_n 3, 1) := dq_29 (dst 16 rd_prog_14_method_12_code_0 rfl)
theorem dX12_readPart_17 : decode cX12_readPart 17 = .ok (.bipush (-9), 2) := dq_16 (dst 17 rd_prog_14_method_12_code_0 rfl) (by decide +kernel)
theorem dX12_readPart_19 : decode cX12_readPart 19 = .ok (.if_icmp .eq 86, 3) := dq_159 (dst 19 rd_prog_14_method_12_code_0 rfl) (by decide +kernel)
theorem dX12_readPart_22 : decode cX12_readPart 22 = .ok (.aload_n 0, 1) := dq_42 (dst 22 rd_prog_14_method_12_code_0 rfl)
theorem dX12_readPart_23 : decode cX12_readPart 23 = .ok (.getfield 85, 3) := dq_180 (dst 23 rd_prog_14_method_12_code_0 rfl) rfl
theorem dX12_readPart_26 : decode cX12_readPart 26 = .ok (.iload_n 3, 1) := dq_29 (dst 26 rd_prog_14_method_12_code_0 rfl)
theorem dX12_readPart_27 : decode cX12_readPart 27 = .ok (.ishr, 1) := dq_122 (dst 27 rd_prog_14_method_12_code_0 rfl)
theorem dX12_readPart_28 : decode cX12_readPart 28 = .ok (.iconst 1, 1) := dq_4 (dst 28 rd_prog_14_method_12_code_0 rfl)
theorem dX12_readPart_29 : decode cX12_readPart 29 = .ok (.iand, 1) := dq_126 (dst 29 rd_prog_14_method_12_code_0 rfl)
theorem dX12_readPart_30 : decode cX12_readPart 30 = .ok (.ifCond .ne 75, 3) := dq_154 (dst 30 rd_prog_14_method_12_code_0 rfl) (by decide +kernel)
theorem dX12_readPart_33 : decode cX12_readPart 33 = .ok (.aload_n 0, 1) := dq_42 (dst 1 rd_prog_14_method_12_code_1 rfl)
theorem dX12_readPart_34 : decode cX12_readPart 34 = .ok (.dup, 1) := dq_89 (dst 2 rd_prog_14_method_12_code_1 rfl)
theorem dX12_readPart_35 : decode cX12_readPart 35 = .ok (.getfield 111, 3) := dq_180 (dst 3 rd_prog_14_method_12_code_1 rfl) rfl
theorem dX12_readPart_38 : decode cX12_readPart 38 = .ok (.iconst 1, 1) := dq_4 (dst 6 rd_prog_14_method_12_code_1 rfl)
theorem dX12_readPart_39 : decode cX12_readPart 39 = .ok (.iadd, 1) := dq_96 (dst 7 rd_prog_14_method_12_code_1 rfl)
theorem dX12_readPart_40 : decode cX12_readPart 40 = .ok (.putfield 111, 3) := dq_181 (dst 8 rd_prog_14_method_12_code_1 rfl) rfl
theorem dX12_readPart_43 : decode cX12_readPart 43 = .ok (.aload_n 0, 1) := dq_42 (dst 11 rd_prog_14_method_12_code_1 rfl)
theorem dX12_readPart_44 : decode cX12_readPart 44 = .ok (.dup, 1) := dq_89 (dst 12 rd_prog_14_method_12_code_1 rfl)
theorem dX12_readPart_45 : decode cX12_readPart 45 = .ok (.getfield 85, 3) := dq_180 (dst 13 rd_prog_14_method_12_code_1 rfl) rfl
theorem dX12_readPart_48 : decode cX12_readPart 48 = .ok (.iconst 1, 1) := dq_4 (dst 16 rd_prog_14_method_12_code_1 rfl)
theorem dX12_readPart_49 : decode cX12_readPart 49 = .ok (.iload_n 3, 1) := dq_29 (dst 17 rd_prog_14_method_12_code_1 rfl)
theorem dX12_readPart_50 : decode cX12_readPart 50 = .ok (.ishl, 1) := dq_120 (dst 18 rd_prog_14_method_12_code_1 rfl)
theorem dX12_readPart_51 : decode cX12_readPart 51 = .ok (.ior, 1) := dq_128 (dst 19 rd_prog_14_method_12_code_1 rfl)
theorem dX12_readPart_52 : decode cX12_readPart 52 = .ok (.putfield 85, 3) := dq_181 (dst 20 rd_prog_14_method_12_code_1 rfl) rfl
theorem dX12_readPart_55 : decode cX12_readPart 55 = .ok (.aload_n 0, 1) := dq_42 (dst 23 rd_prog_14_method_12_code_1 rfl)
theorem dX12_readPart_56 : decode cX12_readPart 56 = .ok (.iload_n 3, 1) := dq_29 (dst 24 rd_prog_14_method_12_code_1 rfl)
theorem dX12_readPart_57 : decode cX12_readPart 57 = .ok (.ifCond .ne 8, 3) := dq_154 (dst 25 rd_prog_14_method_12_code_1 rfl) (by decide +kernel)
theorem dX12_readPart_60 : decode cX12_readPart 60 = .ok (.bipush 30, 2) := dq_16 (dst 28 rd_prog_14_method_12_code_1 rfl) (by decide +kernel)
theorem dX12_readPart_62 : decode cX12_readPart 62 = .ok (.goto 6, 3) := dq_167 (dst 30 rd_prog_14_method_12_code_1 rfl) (by decide +kernel)
theorem dX12_readPart_65 : decode cX12_readPart 65 = .ok (.sipush 1023, 3) := dq_17 (dst 1 rd_prog_14_method_12_code_2 rfl) (by decide +kernel)
theorem dX12_readPart_68 : decode cX12_readPart 68 = .ok (.invokevirtual 119, 3) := dq_182 (dst 4 rd_prog_14_method_12_code_2 rfl) rfl
theorem dX12_readPart_71 : decode cX12_readPart 71 = .ok (.istore 4, 2) := dq_54 (dst 7 rd_prog_14_method_12_code_2 rfl) rfl
theorem dX12_readPart_73 : decode cX12_readPart 73 = .ok (.aload_n 0, 1) := dq_42 (dst 9 rd_prog_14_method_12_code_2 rfl)
theorem dX12_readPart_74 : decode cX12_readPart 74 = .ok (.getfield 7, 3) := dq_180 (dst 10 rd_prog_14_method_12_code_2 rfl) rfl
theorem dX12_readPart_77 : decode cX12_readPart 77 = .ok (.iload_n 3, 1) := dq_29 (dst 13 rd_prog_14_method_12_code_2 rfl)
theorem dX12_readPart_78 : decode cX12_readPart 78 = .ok (.iconst 1, 1) := dq_4 (dst 14 rd_prog_14_method_12_code_2 rfl)
theorem dX12_readPart_79 : decode cX12_readPart 79 = .ok (.iadd, 1) := dq_96 (dst 15 rd_prog_14_method_12_code_2 rfl)
theorem dX12_readPart_80 : decode cX12_readPart 80 = .ok (.iload 4, 2) := dq_21 (dst 16 rd_prog_14_method_12_code_2 rfl) rfl
theorem dX12_readPart_82 : decode cX12_readPart 82 = .ok (.iastore, 1) := dq_79 (dst 18 rd_prog_14_method_12_code_2 rfl)
theorem dX12_readPart_83 : decode cX12_readPart 83 = .ok (.iload_n 3, 1) := dq_29 (dst 19 rd_prog_14_method_12_code_2 rfl)
theorem dX12_readPart_84 : decode cX12_readPart 84 = .ok (.bipush 6, 2) := dq_16 (dst 20 rd_prog_14_method_12_code_2 rfl) (by decide +kernel)
theorem dX12_readPart_86 : decode cX12_readPart 86 = .ok (.if_icmp .ne 16, 3) := dq_160 (dst 22 rd_prog_14_method_12_code_2 rfl) (by decide +kernel)
theorem dX12_readPart_89 : decode cX12_readPart 89 = .ok (.aload_n 0, 1) := dq_42 (dst 25 rd_prog_14_method_12_code_2 rfl)
theorem dX12_readPart_90 : decode cX12_readPart 90 = .ok (.getfield 7, 3) := dq_180 (dst 26 rd_prog_14_method_12_code_2 rfl) rfl
theorem dX12_readPart_93 : decode cX12_readPart 93 = .ok (.bipush 8, 2) := dq_16 (dst 29 rd_prog_14_method_12_code_2 rfl) (by decide +kernel)
theorem dX12_readPart_95 : decode cX12_readPart 95 = .ok (.aload_n 0, 1) := dq_42 (dst 31 rd_prog_14_method_12_code_2 rfl)
theorem dX12_readPart_96 : decode cX12_readPart 96 = .ok (.bipush 63, 2) := dq_16 (dst 0 rd_prog_14_method_12_code_3 rfl) (by decide +kernel)
theorem dX12_readPart_98 : decode cX12_readPart 98 = .ok (.invokevirtual 119, 3) := dq_182 (dst 2 rd_prog_14_method_12_code_3 rfl) rfl
theorem dX12_readPart_101 : decode cX12_readPart 101 = .ok (.iastore, 1) := dq_79 (dst 5 rd_prog_14_method_12_code_3 rfl)
theorem dX12_readPart_102 : decode cX12_readPart 102 = .ok (.goto 308, 3) := dq_167 (dst 6 rd_prog_14_method_12_code_3 rfl) (by decide +kernel)
theorem dX12_readPart_105 : decode cX12_readPart 105 = .ok (.iload_n 1, 1) := dq_27 (dst 9 rd_prog_14_method_12_code_3 rfl)
theorem dX12_readPart_106 : decode cX12_readPart 106 = .ok (.bipush 87, 2) := dq_16 (dst 10 rd_prog_14_method_12_code_3 rfl) (by decide +kernel)
theorem dX12_readPart_108 : decode cX12_readPart 108 = .ok (.if_icmp .ne 83, 3) := dq_160 (dst 12 rd_prog_14_method_12_code_3 rfl) (by decide +kernel)
theorem dX12_readPart_111 : decode cX12_readPart 111 = .ok (.aload_n 0, 1) := dq_42 (dst 15 rd_prog_14_method_12_code_3 rfl)
theorem dX12_readPart_112 : decode cX12_readPart 112 = .ok (.getfield 89, 3) := dq_180 (dst 16 rd_prog_14_method_12_code_3 rfl) rfl
theorem dX12_readPart_115 : decode cX12_readPart 115 = .ok (.iload_n 2, 1) := dq_28 (dst 19 rd_prog_14_method_12_code_3 rfl)
theorem dX12_readPart_116 : decode cX12_readPart 116 = .ok (.if_icmp .eq 75, 3) := dq_159 (dst 20 rd_prog_14_method_12_code_3 rfl) (by decide +kernel)
theorem dX12_readPart_119 : decode cX12_readPart 119 = .ok (.aload_n 0, 1) := dq_42 (dst 23 rd_prog_14_method_12_code_3 rfl)
theorem dX12_readPart_120 : decode cX12_readPart 120 = .ok (.dup, 1) := dq_89 (dst 24 rd_prog_14_method_12_code_3 rfl)
theorem dX12_readPart_121 : decode cX12_readPart 121 = .ok (.getfield 111, 3) := dq_180 (dst 25 rd_prog_14_method_12_code_3 rfl) rfl
theorem dX12_readPart_124 : decode cX12_readPart 124 = .ok (.iconst 1, 1) := dq_4 (dst 28 rd_prog_14_method_12_code_3 rfl)
theorem dX12_readPart_125 : decode cX12_readPart 125 = .ok (.iadd, 1) := dq_96 (dst 29 rd_prog_14_method_12_code_3 rfl)
theorem dX12_readPart_126 : decode cX12_readPart 126 = .ok (.putfield 111, 3) := dq_181 (dst 30 rd_prog_14_method_12_code_3 rfl) rfl
theorem dX12_readPart_129 : decode cX12_readPart 129 = .ok (.aload_n 0, 1) := dq_42 (dst 1 rd_prog_14_method_12_code_4 rfl)
theorem dX12_readPart_130 : decode cX12_readPart 130 = .ok (.iload_n 2, 1) := dq_28 (dst 2 rd_prog_14_method_12_code_4 rfl)
theorem dX12_readPart_131 : decode cX12_readPart 131 = .ok (.aload_n 0, 1) := dq_42 (dst 3 rd_prog_14_method_12_code_4 rfl)
theorem dX12_readPart_132 : decode cX12_readPart 132 = .ok (.getfield 89, 3) := dq_180 (dst 4 rd_prog_14_method_12_code_4 rfl) rfl
theorem dX12_readPart_135 : decode cX12_readPart 135 = .ok (.iconst (-1), 1) := dq_2 (dst 7 rd_prog_14_method_12_code_4 rfl)
theorem dX12_readPart_136 : decode cX12_readPart 136 = .ok (.ixor, 1) := dq_130 (dst 8 rd_prog_14_method_12_code_4 rfl)
theorem dX12_readPart_137 : decode cX12_readPart 137 = .ok (.iand, 1) := dq_126 (dst 9 rd_prog_14_method_12_code_4 rfl)
theorem dX12_readPart_138 : decode cX12_readPart 138 = .ok (.invokevirtual 119, 3) := dq_182 (dst 10 rd_prog_14_method_12_code_4 rfl) rfl
theorem dX12_readPart_141 : decode cX12_readPart 141 = .ok (.istore 4, 2) := dq_54 (dst 13 rd_prog_14_method_12_code_4 rfl) rfl
theorem dX12_readPart_143 : decode cX12_readPart 143 = .ok (.aload_n 0, 1) := dq_42 (dst 15 rd_prog_14_method_12_code_4 rfl)
theorem dX12_readPart_144 : decode cX12_readPart 144 = .ok (.dup, 1) := dq_89 (dst 16 rd_prog_14_method_12_code_4 rfl)
theorem dX12_readPart_145 : decode cX12_readPart 145 = .ok (.getfield 89, 3) := dq_180 (dst 17 rd_prog_14_method_12_code_4 rfl) rfl
theorem dX12_readPart_148 : decode cX12_readPart 148 = .ok (.iconst 1, 1) := dq_4 (dst 20 rd_prog_14_method_12_code_4 rfl)
theorem dX12_readPart_149 : decode cX12_readPart 149 = .ok (.iload 4, 2) := dq_21 (dst 21 rd_prog_14_method_12_code_4 rfl) rfl
theorem dX12_readPart_151 : decode cX12_readPart 151 = .ok (.ishl, 1) := dq_120 (dst 23 rd_prog_14_method_12_code_4 rfl)
theorem dX12_readPart_152 : decode cX12_readPart 152 = .ok (.ior, 1) := dq_128 (dst 24 rd_prog_14_method_12_code_4 rfl)
theorem dX12_readPart_153 : decode cX12_readPart 153 = .ok (.putfield 89, 3) := dq_181 (dst 25 rd_prog_14_method_12_code_4 rfl) rfl
theorem dX12_readPart_156 : decode cX12_readPart 156 = .ok (.aload_n 0, 1) := dq_42 (dst 28 rd_prog_14_method_12_code_4 rfl)
theorem dX12_readPart_157 : decode cX12_readPart 157 = .ok (.sipush 1023, 3) := dq_17 (dst 29 rd_prog_14_method_12_code_4 rfl) (by decide +kernel)
theorem dX12_readPart_160 : decode cX12_readPart 160 = .ok (.invokevirtual 119, 3) := dq_182 (dst 0 rd_prog_14_method_12_code_5 rfl) rfl
theorem dX12_readPart_163 : decode cX12_readPart 163 = .ok (.istore 5, 2) := dq_54 (dst 3 rd_prog_14_method_12_code_5 rfl) rfl
theorem dX12_readPart_165 : decode cX12_readPart 165 = .ok (.aload_n 0, 1) := dq_42 (dst 5 rd_prog_14_method_12_code_5 rfl)
theorem dX12_readPart_166 : decode cX12_readPart 166 = .ok (.getfield 7, 3) := dq_180 (dst 6 rd_prog_14_method_12_code_5 rfl) rfl
theorem dX12_readPart_169 : decode cX12_readPart 169 = .ok (.bipush 10, 2) := dq_16 (dst 9 rd_prog_14_method_12_code_5 rfl) (by decide +kernel)
theorem dX12_readPart_171 : decode cX12_readPart 171 = .ok (.iload 4, 2) := dq_21 (dst 11 rd_prog_14_method_12_code_5 rfl) rfl
theorem dX12_readPart_173 : decode cX12_readPart 173 = .ok (.iadd, 1) := dq_96 (dst 13 rd_prog_14_method_12_code_5 rfl)
theorem dX12_readPart_174 : decode cX12_readPart 174 = .ok (.bipush 10, 2) := dq_16 (dst 14 rd_prog_14_method_12_code_5 rfl) (by decide +kernel)
theorem dX12_readPart_176 : decode cX12_readPart 176 = .ok (.iload 5, 2) := dq_21 (dst 16 rd_prog_14_method_12_code_5 rfl) rfl
theorem dX12_readPart_178 : decode cX12_readPart 178 = .ok (.imul, 1) := dq_104 (dst 18 rd_prog_14_method_12_code_5 rfl)
theorem dX12_readPart_179 : decode cX12_readPart 179 = .ok (.aload_n 0, 1) := dq_42 (dst 19 rd_prog_14_method_12_code_5 rfl)
theorem dX12_readPart_180 : decode cX12_readPart 180 = .ok (.sipush 1023, 3) := dq_17 (dst 20 rd_prog_14_method_12_code_5 rfl) (by decide +kernel)
theorem dX12_readPart_183 : decode cX12_readPart 183 = .ok (.invokevirtual 119, 3) := dq_182 (dst 23 rd_prog_14_method_12_code_5 rfl) rfl
theorem dX12_readPart_186 : decode cX12_readPart 186 = .ok (.iadd, 1) := dq_96 (dst 26 rd_prog_14_method_12_code_5 rfl)
theorem dX12_readPart_187 : decode cX12_readPart 187 = .ok (.iastore, 1) := dq_79 (dst 27 rd_prog_14_method_12_code_5 rfl)
theorem dX12_readPart_188 : decode cX12_readPart 188 = .ok (.goto 222, 3) := dq_167 (dst 28 rd_prog_14_method_12_code_5 rfl) (by decide +kernel)
theorem dX12_readPart_191 : decode cX12_readPart 191 = .ok (.iload_n 1, 1) := dq_27 (dst 31 rd_prog_14_method_12_code_5 rfl)
theorem dX12_readPart_192 : decode cX12_readPart 192 = .ok (.bipush 79, 2) := dq_16 (dst 0 rd_prog_14_method_12_code_6 rfl) (by decide +kernel)
theorem dX12_readPart_194 : decode cX12_readPart 194 = .ok (.if_icmp .ne 67, 3) := dq_160 (dst 2 rd_prog_14_method_12_code_6 rfl) (by decide +kernel)
theorem dX12_readPart_197 : decode cX12_readPart 197 = .ok (.aload_n 0, 1) := dq_42 (dst 5 rd_prog_14_method_12_code_6 rfl)
theorem dX12_readPart_198 : decode cX12_readPart 198 = .ok (.getfield 92, 3) := dq_180 (dst 6 rd_prog_14_method_12_code_6 rfl) rfl
theorem dX12_readPart_201 : decode cX12_readPart 201 = .ok (.iload_n 2, 1) := dq_28 (dst 9 rd_prog_14_method_12_code_6 rfl)
theorem dX12_readPart_202 : decode cX12_readPart 202 = .ok (.if_icmp .eq 59, 3) := dq_159 (dst 10 rd_prog_14_method_12_code_6 rfl) (by decide +kernel)
theorem dX12_readPart_205 : decode cX12_readPart 205 = .ok (.aload_n 0, 1) := dq_42 (dst 13 rd_prog_14_method_12_code_6 rfl)
theorem dX12_readPart_206 : decode cX12_readPart 206 = .ok (.dup, 1) := dq_89 (dst 14 rd_prog_14_method_12_code_6 rfl)
theorem dX12_readPart_207 : decode cX12_readPart 207 = .ok (.getfield 111, 3) := dq_180 (dst 15 rd_prog_14_method_12_code_6 rfl) rfl
theorem dX12_readPart_210 : decode cX12_readPart 210 = .ok (.iconst 1, 1) := dq_4 (dst 18 rd_prog_14_method_12_code_6 rfl)
theorem dX12_readPart_211 : decode cX12_readPart 211 = .ok (.iadd, 1) := dq_96 (dst 19 rd_prog_14_method_12_code_6 rfl)
theorem dX12_readPart_212 : decode cX12_readPart 212 = .ok (.putfield 111, 3) := dq_181 (dst 20 rd_prog_14_method_12_code_6 rfl) rfl
theorem dX12_readPart_215 : decode cX12_readPart 215 = .ok (.aload_n 0, 1) := dq_42 (dst 23 rd_prog_14_method_12_code_6 rfl)
theorem dX12_readPart_216 : decode cX12_readPart 216 = .ok (.iload_n 2, 1) := dq_28 (dst 24 rd_prog_14_method_12_code_6 rfl)
theorem dX12_readPart_217 : decode cX12_readPart 217 = .ok (.aload_n 0, 1) := dq_42 (dst 25 rd_prog_14_method_12_code_6 rfl)
theorem dX12_readPart_218 : decode cX12_readPart 218 = .ok (.getfield 92, 3) := dq_180 (dst 26 rd_prog_14_method_12_code_6 rfl) rfl
theorem dX12_readPart_221 : decode cX12_readPart 221 = .ok (.iconst (-1), 1) := dq_2 (dst 29 rd_prog_14_method_12_code_6 rfl)
theorem dX12_readPart_222 : decode cX12_readPart 222 = .ok (.ixor, 1) := dq_130 (dst 30 rd_prog_14_method_12_code_6 rfl)
theorem dX12_readPart_223 : decode cX12_readPart 223 = .ok (.iand, 1) := dq_126 (dst 31 rd_prog_14_method_12_code_6 rfl)
theorem dX12_readPart_224 : decode cX12_readPart 224 = .ok (.invokevirtual 119, 3) := dq_182 (dst 0 rd_prog_14_method_12_code_7 rfl) rfl
theorem dX12_readPart_227 : decode cX12_readPart 227 = .ok (.istore 4, 2) := dq_54 (dst 3 rd_prog_14_method_12_code_7 rfl) rfl
theorem dX12_readPart_229 : decode cX12_readPart 229 = .ok (.aload_n 0, 1) := dq_42 (dst 5 rd_prog_14_method_12_code_7 rfl)
theorem dX12_readPart_230 : decode cX12_readPart 230 = .ok (.dup, 1) := dq_89 (dst 6 rd_prog_14_method_12_code_7 rfl)
theorem dX12_readPart_231 : decode cX12_readPart 231 = .ok (.getfield 92, 3) := dq_180 (dst 7 rd_prog_14_method_12_code_7 rfl) rfl
theorem dX12_readPart_234 : decode cX12_readPart 234 = .ok (.iconst 1, 1) := dq_4 (dst 10 rd_prog_14_method_12_code_7 rfl)
theorem dX12_readPart_235 : decode cX12_readPart 235 = .ok (.iload 4, 2) := dq_21 (dst 11 rd_prog_14_method_12_code_7 rfl) rfl
theorem dX12_readPart_237 : decode cX12_readPart 237 = .ok (.ishl, 1) := dq_120 (dst 13 rd_prog_14_method_12_code_7 rfl)
theorem dX12_readPart_238 : decode cX12_readPart 238 = .ok (.ior, 1) := dq_128 (dst 14 rd_prog_14_method_12_code_7 rfl)
theorem dX12_readPart_239 : decode cX12_readPart 239 = .ok (.putfield 92, 3) := dq_181 (dst 15 rd_prog_14_method_12_code_7 rfl) rfl
theorem dX12_readPart_242 : decode cX12_readPart 242 = .ok (.aload_n 0, 1) := dq_42 (dst 18 rd_prog_14_method_12_code_7 rfl)
theorem dX12_readPart_243 : decode cX12_readPart 243 = .ok (.getfield 7, 3) := dq_180 (dst 19 rd_prog_14_method_12_code_7 rfl) rfl
theorem dX12_readPart_246 : decode cX12_readPart 246 = .ok (.bipush 15, 2) := dq_16 (dst 22 rd_prog_14_method_12_code_7 rfl) (by decide +kernel)
theorem dX12_readPart_248 : decode cX12_readPart 248 = .ok (.iload 4, 2) := dq_21 (dst 24 rd_prog_14_method_12_code_7 rfl) rfl
theorem dX12_readPart_250 : decode cX12_readPart 250 = .ok (.iadd, 1) := dq_96 (dst 26 rd_prog_14_method_12_code_7 rfl)
theorem dX12_readPart_251 : decode cX12_readPart 251 = .ok (.aload_n 0, 1) := dq_42 (dst 27 rd_prog_14_method_12_code_7 rfl)
theorem dX12_readPart_252 : decode cX12_readPart 252 = .ok (.bipush 31, 2) := dq_16 (dst 28 rd_prog_14_method_12_code_7 rfl) (by decide +kernel)
theorem dX12_readPart_254 : decode cX12_readPart 254 = .ok (.invokevirtual 119, 3) := dq_182 (dst 30 rd_prog_14_method_12_code_7 rfl) rfl
theorem dX12_readPart_257 : decode cX12_readPart 257 = .ok (.iastore, 1) := dq_79 (dst 1 rd_prog_14_method_12_code_8 rfl)
theorem dX12_readPart_258 : decode cX12_readPart 258 = .ok (.goto 152, 3) := dq_167 (dst 2 rd_prog_14_method_12_code_8 rfl) (by decide +kernel)
theorem dX12_readPart_261 : decode cX12_readPart 261 = .ok (.iload_n 1, 1) := dq_27 (dst 5 rd_prog_14_method_12_code_8 rfl)
theorem dX12_readPart_262 : decode cX12_readPart 262 = .ok (.bipush 81, 2) := dq_16 (dst 6 rd_prog_14_method_12_code_8 rfl) (by decide +kernel)
theorem dX12_readPart_264 : decode cX12_readPart 264 = .ok (.if_icmp .ne 69, 3) := dq_160 (dst 8 rd_prog_14_method_12_code_8 rfl) (by decide +kernel)
theorem dX12_readPart_267 : decode cX12_readPart 267 = .ok (.aload_n 0, 1) := dq_42 (dst 11 rd_prog_14_method_12_code_8 rfl)
theorem dX12_readPart_268 : decode cX12_readPart 268 = .ok (.getfield 95, 3) := dq_180 (dst 12 rd_prog_14_method_12_code_8 rfl) rfl
theorem dX12_readPart_271 : decode cX12_readPart 271 = .ok (.bipush 7, 2) := dq_16 (dst 15 rd_prog_14_method_12_code_8 rfl) (by decide +kernel)
theorem dX12_readPart_273 : decode cX12_readPart 273 = .ok (.if_icmp .eq 60, 3) := dq_159 (dst 17 rd_prog_14_method_12_code_8 rfl) (by decide +kernel)
theorem dX12_readPart_276 : decode cX12_readPart 276 = .ok (.aload_n 0, 1) := dq_42 (dst 20 rd_prog_14_method_12_code_8 rfl)
theorem dX12_readPart_277 : decode cX12_readPart 277 = .ok (.dup, 1) := dq_89 (dst 21 rd_prog_14_method_12_code_8 rfl)
theorem dX12_readPart_278 : decode cX12_readPart 278 = .ok (.getfield 111, 3) := dq_180 (dst 22 rd_prog_14_method_12_code_8 rfl) rfl
theorem dX12_readPart_281 : decode cX12_readPart 281 = .ok (.iconst 1, 1) := dq_4 (dst 25 rd_prog_14_method_12_code_8 rfl)
theorem dX12_readPart_282 : decode cX12_readPart 282 = .ok (.iadd, 1) := dq_96 (dst 26 rd_prog_14_method_12_code_8 rfl)
theorem dX12_readPart_283 : decode cX12_readPart 283 = .ok (.putfield 111, 3) := dq_181 (dst 27 rd_prog_14_method_12_code_8 rfl) rfl
theorem dX12_readPart_286 : decode cX12_readPart 286 = .ok (.aload_n 0, 1) := dq_42 (dst 30 rd_prog_14_method_12_code_8 rfl)
theorem dX12_readPart_287 : decode cX12_readPart 287 = .ok (.bipush 7, 2) := dq_16 (dst 31 rd_prog_14_method_12_code_8 rfl) (by decide +kernel)
theorem dX12_readPart_289 : decode cX12_readPart 289 = .ok (.aload_n 0, 1) := dq_42 (dst 1 rd_prog_14_method_12_code_9 rfl)
theorem dX12_readPart_290 : decode cX12_readPart 290 = .ok (.getfield 95, 3) := dq_180 (dst 2 rd_prog_14_method_12_code_9 rfl) rfl
theorem dX12_readPart_293 : decode cX12_readPart 293 = .ok (.iconst (-1), 1) := dq_2 (dst 5 rd_prog_14_method_12_code_9 rfl)
theorem dX12_readPart_294 : decode cX12_readPart 294 = .ok (.ixor, 1) := dq_130 (dst 6 rd_prog_14_method_12_code_9 rfl)
theorem dX12_readPart_295 : decode cX12_readPart 295 = .ok (.iand, 1) := dq_126 (dst 7 rd_prog_14_method_12_code_9 rfl)
theorem dX12_readPart_296 : decode cX12_readPart 296 = .ok (.invokevirtual 119, 3) := dq_182 (dst 8 rd_prog_14_method_12_code_9 rfl) rfl
theorem dX12_readPart_299 : decode cX12_readPart 299 = .ok (.istore 4, 2) := dq_54 (dst 11 rd_prog_14_method_12_code_9 rfl) rfl
theorem dX12_readPart_301 : decode cX12_readPart 301 = .ok (.aload_n 0, 1) := dq_42 (dst 13 rd_prog_14_method_12_code_9 rfl)
theorem dX12_readPart_302 : decode cX12_readPart 302 = .ok (.dup, 1) := dq_89 (dst 14 rd_prog_14_method_12_code_9 rfl)
theorem dX12_readPart_303 : decode cX12_readPart 303 = .ok (.getfield 95, 3) := dq_180 (dst 15 rd_prog_14_method_12_code_9 rfl) rfl
theorem dX12_readPart_306 : decode cX12_readPart 306 = .ok (.iconst 1, 1) := dq_4 (dst 18 rd_prog_14_method_12_code_9 rfl)
theorem dX12_readPart_307 : decode cX12_readPart 307 = .ok (.iload 4, 2) := dq_21 (dst 19 rd_prog_14_method_12_code_9 rfl) rfl
theorem dX12_readPart_309 : decode cX12_readPart 309 = .ok (.ishl, 1) := dq_120 (dst 21 rd_prog_14_method_12_code_9 rfl)
theorem dX12_readPart_310 : decode cX12_readPart 310 = .ok (.ior, 1) := dq_128 (dst 22 rd_prog_14_method_12_code_9 rfl)
theorem dX12_readPart_311 : decode cX12_readPart 311 = .ok (.putfield 95, 3) := dq_181 (dst 23 rd_prog_14_method_12_code_9 rfl) rfl
theorem dX12_readPart_314 : decode cX12_readPart 314 = .ok (.aload_n 0, 1) := dq_42 (dst 26 rd_prog_14_method_12_code_9 rfl)
theorem dX12_readPart_315 : decode cX12_readPart 315 = .ok (.getfield 7, 3) := dq_180 (dst 27 rd_prog_14_method_12_code_9 rfl) rfl
theorem dX12_readPart_318 : decode cX12_readPart 318 = .ok (.bipush 20, 2) := dq_16 (dst 30 rd_prog_14_method_12_code_9 rfl) (by decide +kernel)
theorem dX12_readPart_320 : decode cX12_readPart 320 = .ok (.iload 4, 2) := dq_21 (dst 0 rd_prog_14_method_12_code_10 rfl) rfl
theorem dX12_readPart_322 : decode cX12_readPart 322 = .ok (.iadd, 1) := dq_96 (dst 2 rd_prog_14_method_12_code_10 rfl)
theorem dX12_readPart_323 : decode cX12_readPart 323 = .ok (.aload_n 0, 1) := dq_42 (dst 3 rd_prog_14_method_12_code_10 rfl)
theorem dX12_readPart_324 : decode cX12_readPart 324 = .ok (.bipush 63, 2) := dq_16 (dst 4 rd_prog_14_method_12_code_10 rfl) (by decide +kernel)
theorem dX12_readPart_326 : decode cX12_readPart 326 = .ok (.invokevirtual 119, 3) := dq_182 (dst 6 rd_prog_14_method_12_code_10 rfl) rfl
theorem dX12_readPart_329 : decode cX12_readPart 329 = .ok (.iastore, 1) := dq_79 (dst 9 rd_prog_14_method_12_code_10 rfl)
theorem dX12_readPart_330 : decode cX12_readPart 330 = .ok (.goto 80, 3) := dq_167 (dst 10 rd_prog_14_method_12_code_10 rfl) (by decide +kernel)
theorem dX12_readPart_333 : decode cX12_readPart 333 = .ok (.iload_n 1, 1) := dq_27 (dst 13 rd_prog_14_method_12_code_10 rfl)
theorem dX12_readPart_334 : decode cX12_readPart 334 = .ok (.bipush 68, 2) := dq_16 (dst 14 rd_prog_14_method_12_code_10 rfl) (by decide +kernel)
theorem dX12_readPart_336 : decode cX12_readPart 336 = .ok (.if_icmp .ne 70, 3) := dq_160 (dst 16 rd_prog_14_method_12_code_10 rfl) (by decide +kernel)
theorem dX12_readPart_339 : decode cX12_readPart 339 = .ok (.aload_n 0, 1) := dq_42 (dst 19 rd_prog_14_method_12_code_10 rfl)
theorem dX12_readPart_340 : decode cX12_readPart 340 = .ok (.getfield 98, 3) := dq_180 (dst 20 rd_prog_14_method_12_code_10 rfl) rfl
theorem dX12_readPart_343 : decode cX12_readPart 343 = .ok (.bipush 7, 2) := dq_16 (dst 23 rd_prog_14_method_12_code_10 rfl) (by decide +kernel)
theorem dX12_readPart_345 : decode cX12_readPart 345 = .ok (.if_icmp .eq 61, 3) := dq_159 (dst 25 rd_prog_14_method_12_code_10 rfl) (by decide +kernel)
theorem dX12_readPart_348 : decode cX12_readPart 348 = .ok (.aload_n 0, 1) := dq_42 (dst 28 rd_prog_14_method_12_code_10 rfl)
theorem dX12_readPart_349 : decode cX12_readPart 349 = .ok (.dup, 1) := dq_89 (dst 29 rd_prog_14_method_12_code_10 rfl)
theorem dX12_readPart_350 : decode cX12_readPart 350 = .ok (.getfield 111, 3) := dq_180 (dst 30 rd_prog_14_method_12_code_10 rfl) rfl
theorem dX12_readPart_353 : decode cX12_readPart 353 = .ok (.iconst 1, 1) := dq_4 (dst 1 rd_prog_14_method_12_code_11 rfl)
theorem dX12_readPart_354 : decode cX12_readPart 354 = .ok (.iadd, 1) := dq_96 (dst 2 rd_prog_14_method_12_code_11 rfl)
theorem dX12_readPart_355 : decode cX12_readPart 355 = .ok (.putfield 111, 3) := dq_181 (dst 3 rd_prog_14_method_12_code_11 rfl) rfl
theorem dX12_readPart_358 : decode cX12_readPart 358 = .ok (.aload_n 0, 1) := dq_42 (dst 6 rd_prog_14_method_12_code_11 rfl)
theorem dX12_readPart_359 : decode cX12_readPart 359 = .ok (.bipush 7, 2) := dq_16 (dst 7 rd_prog_14_method_12_code_11 rfl) (by decide +kernel)
theorem dX12_readPart_361 : decode cX12_readPart 361 = .ok (.aload_n 0, 1) := dq_42 (dst 9 rd_prog_14_method_12_code_11 rfl)
theorem dX12_readPart_362 : decode cX12_readPart 362 = .ok (.getfield 98, 3) := dq_180 (dst 10 rd_prog_14_method_12_code_11 rfl) rfl
theorem dX12_readPart_365 : decode cX12_readPart 365 = .ok (.iconst (-1), 1) := dq_2 (dst 13 rd_prog_14_method_12_code_11 rfl)
theorem dX12_readPart_366 : decode cX12_readPart 366 = .ok (.ixor, 1) := dq_130 (dst 14 rd_prog_14_method_12_code_11 rfl)
theorem dX12_readPart_367 : decode cX12_readPart 367 = .ok (.iand, 1) := dq_126 (dst 15 rd_prog_14_method_12_code_11 rfl)
theorem dX12_readPart_368 : decode cX12_readPart 368 = .ok (.invokevirtual 119, 3) := dq_182 (dst 16 rd_prog_14_method_12_code_11 rfl) rfl
theorem dX12_readPart_371 : decode cX12_readPart 371 = .ok (.istore 4, 2) := dq_54 (dst 19 rd_prog_14_method_12_code_11 rfl) rfl
theorem dX12_readPart_373 : decode cX12_readPart 373 = .ok (.aload_n 0, 1) := dq_42 (dst 21 rd_prog_14_method_12_code_11 rfl)
theorem dX12_readPart_374 : decode cX12_readPart 374 = .ok (.dup, 1) := dq_89 (dst 22 rd_prog_14_method_12_code_11 rfl)
theorem dX12_readPart_375 : decode cX12_readPart 375 = .ok (.getfield 98, 3) := dq_180 (dst 23 rd_prog_14_method_12_code_11 rfl) rfl
theorem dX12_readPart_378 : decode cX12_readPart 378 = .ok (.iconst 1, 1) := dq_4 (dst 26 rd_prog_14_method_12_code_11 rfl)
theorem dX12_readPart_379 : decode cX12_readPart 379 = .ok (.iload 4, 2) := dq_21 (dst 27 rd_prog_14_method_12_code_11 rfl) rfl
theorem dX12_readPart_381 : decode cX12_readPart 381 = .ok (.ishl, 1) := dq_120 (dst 29 rd_prog_14_method_12_code_11 rfl)
theorem dX12_readPart_382 : decode cX12_readPart 382 = .ok (.ior, 1) := dq_128 (dst 30 rd_prog_14_method_12_code_11 rfl)
theorem dX12_readPart_383 : decode cX12_readPart 383 = .ok (.putfield 98, 3) := dq_181 (dst 31 rd_prog_14_method_12_code_11 rfl) rfl
theorem dX12_readPart_386 : decode cX12_readPart 386 = .ok (.aload_n 0, 1) := dq_42 (dst 2 rd_prog_14_method_12_code_12 rfl)
theorem dX12_readPart_387 : decode cX12_readPart 387 = .ok (.getfield 7, 3) := dq_180 (dst 3 rd_prog_14_method_12_code_12 rfl) rfl
theorem dX12_readPart_390 : decode cX12_readPart 390 = .ok (.bipush 23, 2) := dq_16 (dst 6 rd_prog_14_method_12_code_12 rfl) (by decide +kernel)
theorem dX12_readPart_392 : decode cX12_readPart 392 = .ok (.iload 4, 2) := dq_21 (dst 8 rd_prog_14_method_12_code_12 rfl) rfl
theorem dX12_readPart_394 : decode cX12_readPart 394 = .ok (.iadd, 1) := dq_96 (dst 10 rd_prog_14_method_12_code_12 rfl)
theorem dX12_readPart_395 : decode cX12_readPart 395 = .ok (.aload_n 0, 1) := dq_42 (dst 11 rd_prog_14_method_12_code_12 rfl)
theorem dX12_readPart_396 : decode cX12_readPart 396 = .ok (.sipush 1023, 3) := dq_17 (dst 12 rd_prog_14_method_12_code_12 rfl) (by decide +kernel)
theorem dX12_readPart_399 : decode cX12_readPart 399 = .ok (.invokevirtual 119, 3) := dq_182 (dst 15 rd_prog_14_method_12_code_12 rfl) rfl
theorem dX12_readPart_402 : decode cX12_readPart 402 = .ok (.iastore, 1) := dq_79 (dst 18 rd_prog_14_method_12_code_12 rfl)
theorem dX12_readPart_403 : decode cX12_readPart 403 = .ok (.goto 7, 3) := dq_167 (dst 19 rd_prog_14_method_12_code_12 rfl) (by decide +kernel)
theorem dX12_readPart_406 : decode cX12_readPart 406 = .ok (.aload_n 0, 1) := dq_42 (dst 22 rd_prog_14_method_12_code_12 rfl)
theorem dX12_readPart_407 : decode cX12_readPart 407 = .ok (.invokevirtual 116, 3) := dq_182 (dst 23 rd_prog_14_method_12_code_12 rfl) rfl
theorem dX12_readPart_410 : decode cX12_readPart 410 = .ok (.return_, 1) := dq_177 (dst 26 rd_prog_14_method_12_code_12 rfl)
theorem lf_X12_readRule_1 : ∀ w ∈ ([Cond.fieldLink RX12 111 "StillInAugustModel" "at" "I", Cond.fieldLink RX12 108 "StillInAugustModel" "faultAt" "I", Cond.fieldLink RX12 130 "StillInAugustModel" "exceptions" "I", Cond.fieldLink RX12 103 "StillInAugustModel" "length" "I", Cond.fieldLink RX12 16 "StillInAugustModel" "text" "[I", Cond.fieldLink RX12 22 "StillInAugustModel" "readLevels" "[I", Cond.methodLink RX12 119 yX12_figure, Cond.instanceMethod yX12_figure, Cond.selects RX12 yX12_figure yX12_figure, Cond.initialized RX12, Cond.code yX12_figure cX12_figure 3 (some .int), Cond.constantLong RX12 114 (9), Cond.methodLink RX12 73 yX12_in, Cond.static yX12_in, Cond.code yX12_in cX12_in 6 (some .boolean), Cond.methodLink RX12 116 yX12_fail, Cond.instanceMethod yX12_fail, Cond.selects RX12 yX12_fail yX12_fail, Cond.code yX12_fail cX12_fail 1 none] : List Cond), w ∈ wsX12_readRule := fun _ h => (List.mem_cons_of_mem _ (List.mem_append_left _ h))
theorem lf_X12_readRule_2 : ∀ w ∈ wsX120, w ∈ wsX12_readRule := fun _ h => (List.mem_cons_of_mem _ (List.mem_append_right _ h))
set_option maxRecDepth 20000 in
theorem ggX12_readRule_X12_figure : GoodIn wsX12_readRule wsX12_figure := (gd_cons (lf_X12_readRule_1 _ (List.mem_of_getElem? (i := 10) rfl)) rfl (goodIn_app (gd_cons (lf_X12_readRule_1 _ (List.mem_of_getElem? (i := 1) rfl)) rfl (gd_cons (lf_X12_readRule_1 _ (List.mem_of_getElem? (i := 0) rfl)) rfl (gd_cons (lf_X12_readRule_1 _ (List.mem_of_getElem? (i := 3) rfl)) rfl (gd_cons (lf_X12_readRule_1 _ (List.mem_of_getElem? (i := 4) rfl)) rfl (gd_cons (lf_X12_readRule_1 _ (List.mem_of_getElem? (i := 11) rfl)) rfl (gd_cons (lf_X12_readRule_1 _ (List.mem_of_getElem? (i := 12) rfl)) rfl (gd_cons (lf_X12_readRule_1 _ (List.mem_of_getElem? (i := 13) rfl)) rfl (gd_cons (lf_X12_readRule_1 _ (List.mem_of_getElem? (i := 9) rfl)) rfl (gd_cons (lf_X12_readRule_1 _ (List.mem_of_getElem? (i := 14) rfl)) rfl (gd_cons (lf_X12_readRule_1 _ (List.mem_of_getElem? (i := 15) rfl)) rfl (gd_cons (lf_X12_readRule_1 _ (List.mem_of_getElem? (i := 16) rfl)) rfl (gd_cons (lf_X12_readRule_1 _ (List.mem_of_getElem? (i := 17) rfl)) rfl (gd_cons (lf_X12_readRule_1 _ (List.mem_of_getElem? (i := 18) rfl)) rfl (gd_nil _)))))))))))))) (goodIn_sub lf_X12_readRule_2 ga_wsX120)))
set_option maxRecDepth 20000 in
theorem gX12_readRule_X12_figure : GoodIn wsX12_readRule (wsV RX12 119 RX12 yX12_figure wsX12_figure) := goodIn_app (gd_cons (lf_X12_readRule_1 _ (List.mem_of_getElem? (i := 6) rfl)) rfl (gd_cons (lf_X12_readRule_1 _ (List.mem_of_getElem? (i := 7) rfl)) rfl (gd_cons (lf_X12_readRule_1 _ (List.mem_of_getElem? (i := 8) rfl)) rfl (gd_cons (lf_X12_readRule_1 _ (List.mem_of_getElem? (i := 9) rfl)) rfl (gd_nil _))))) ggX12_readRule_X12_figure
set_option maxRecDepth 20000 in
theorem ggX12_readRule_X12_fail : GoodIn wsX12_readRule wsX12_fail := (gd_cons (lf_X12_readRule_1 _ (List.mem_of_getElem? (i := 18) rfl)) rfl (goodIn_app (gd_cons (lf_X12_readRule_1 _ (List.mem_of_getElem? (i := 1) rfl)) rfl (gd_cons (lf_X12_readRule_1 _ (List.mem_of_getElem? (i := 0) rfl)) rfl (gd_nil _))) (goodIn_sub lf_X12_readRule_2 ga_wsX120)))
set_option maxRecDepth 20000 in
theorem gX12_readRule_X12_fail : GoodIn wsX12_readRule (wsV RX12 116 RX12 yX12_fail wsX12_fail) := goodIn_app (gd_cons (lf_X12_readRule_1 _ (List.mem_of_getElem? (i := 15) rfl)) rfl (gd_cons (lf_X12_readRule_1 _ (List.mem_of_getElem? (i := 16) rfl)) rfl (gd_cons (lf_X12_readRule_1 _ (List.mem_of_getElem? (i := 17) rfl)) rfl (gd_cons (lf_X12_readRule_1 _ (List.mem_of_getElem? (i := 9) rfl)) rfl (gd_nil _))))) ggX12_readRule_X12_fail
theorem dX12_readRule_0 : decode cX12_readRule 0 = .ok (.aload_n 0, 1) := dq_42 (dst 0 rd_prog_14_method_13_code_0 rfl)
theorem dX12_readRule_1 : decode cX12_readRule 1 = .ok (.iconst 0, 1) := dq_3 (dst 1 rd_prog_14_method_13_code_0 rfl)
theorem dX12_readRule_2 : decode cX12_readRule 2 = .ok (.putfield 111, 3) := dq_181 (dst 2 rd_prog_14_method_13_code_0 rfl) rfl
theorem dX12_readRule_5 : decode cX12_readRule 5 = .ok (.aload_n 0, 1) := dq_42 (dst 5 rd_prog_14_method_13_code_0 rfl)
theorem dX12_readRule_6 : decode cX12_readRule 6 = .ok (.bipush (-9), 2) := dq_16 (dst 6 rd_prog_14_method_13_code_0 rfl) (by decide +kernel)
theorem dX12_readRule_8 : decode cX12_readRule 8 = .ok (.putfield 108, 3) := dq_181 (dst 8 rd_prog_14_method_13_code_0 rfl) rfl
theorem dX12_readRule_11 : decode cX12_readRule 11 = .ok (.aload_n 0, 1) := dq_42 (dst 11 rd_prog_14_method_13_code_0 rfl)
theorem dX12_readRule_12 : decode cX12_readRule 12 = .ok (.iconst 0, 1) := dq_3 (dst 12 rd_prog_14_method_13_code_0 rfl)
theorem dX12_readRule_13 : decode cX12_readRule 13 = .ok (.putfield 130, 3) := dq_181 (dst 13 rd_prog_14_method_13_code_0 rfl) rfl
theorem dX12_readRule_16 : decode cX12_readRule 16 = .ok (.bipush 31, 2) := dq_16 (dst 16 rd_prog_14_method_13_code_0 rfl) (by decide +kernel)
theorem dX12_readRule_18 : decode cX12_readRule 18 = .ok (.istore_n 1, 1) := dq_60 (dst 18 rd_prog_14_method_13_code_0 rfl)
theorem dX12_readRule_19 : decode cX12_readRule 19 = .ok (.aload_n 0, 1) := dq_42 (dst 19 rd_prog_14_method_13_code_0 rfl)
theorem dX12_readRule_20 : decode cX12_readRule 20 = .ok (.getfield 108, 3) := dq_180 (dst 20 rd_prog_14_method_13_code_0 rfl) rfl
theorem dX12_readRule_23 : decode cX12_readRule 23 = .ok (.bipush (-9), 2) := dq_16 (dst 23 rd_prog_14_method_13_code_0 rfl) (by decide +kernel)
theorem dX12_readRule_25 : decode cX12_readRule 25 = .ok (.if_icmp .ne 67, 3) := dq_160 (dst 25 rd_prog_14_method_13_code_0 rfl) (by decide +kernel)
theorem dX12_readRule_28 : decode cX12_readRule 28 = .ok (.aload_n 0, 1) := dq_42 (dst 28 rd_prog_14_method_13_code_0 rfl)
theorem dX12_readRule_29 : decode cX12_readRule 29 = .ok (.getfield 111, 3) := dq_180 (dst 29 rd_prog_14_method_13_code_0 rfl) rfl
theorem dX12_readRule_32 : decode cX12_readRule 32 = .ok (.aload_n 0, 1) := dq_42 (dst 0 rd_prog_14_method_13_code_1 rfl)
theorem dX12_readRule_33 : decode cX12_readRule 33 = .ok (.getfield 103, 3) := dq_180 (dst 1 rd_prog_14_method_13_code_1 rfl) rfl
theorem dX12_readRule_36 : decode cX12_readRule 36 = .ok (.if_icmp .ge 56, 3) := dq_162 (dst 4 rd_prog_14_method_13_code_1 rfl) (by decide +kernel)
theorem dX12_readRule_39 : decode cX12_readRule 39 = .ok (.aload_n 0, 1) := dq_42 (dst 7 rd_prog_14_method_13_code_1 rfl)
theorem dX12_readRule_40 : decode cX12_readRule 40 = .ok (.getfield 16, 3) := dq_180 (dst 8 rd_prog_14_method_13_code_1 rfl) rfl
theorem dX12_readRule_43 : decode cX12_readRule 43 = .ok (.aload_n 0, 1) := dq_42 (dst 11 rd_prog_14_method_13_code_1 rfl)
theorem dX12_readRule_44 : decode cX12_readRule 44 = .ok (.getfield 111, 3) := dq_180 (dst 12 rd_prog_14_method_13_code_1 rfl) rfl
theorem dX12_readRule_47 : decode cX12_readRule 47 = .ok (.iaload, 1) := dq_46 (dst 15 rd_prog_14_method_13_code_1 rfl)
theorem dX12_readRule_48 : decode cX12_readRule 48 = .ok (.bipush 76, 2) := dq_16 (dst 16 rd_prog_14_method_13_code_1 rfl) (by decide +kernel)
theorem dX12_readRule_50 : decode cX12_readRule 50 = .ok (.if_icmp .eq 42, 3) := dq_159 (dst 18 rd_prog_14_method_13_code_1 rfl) (by decide +kernel)
theorem dX12_readRule_53 : decode cX12_readRule 53 = .ok (.aload_n 0, 1) := dq_42 (dst 21 rd_prog_14_method_13_code_1 rfl)
theorem dX12_readRule_54 : decode cX12_readRule 54 = .ok (.iload_n 1, 1) := dq_27 (dst 22 rd_prog_14_method_13_code_1 rfl)
theorem dX12_readRule_55 : decode cX12_readRule 55 = .ok (.invokevirtual 119, 3) := dq_182 (dst 23 rd_prog_14_method_13_code_1 rfl) rfl
theorem dX12_readRule_58 : decode cX12_readRule 58 = .ok (.istore_n 2, 1) := dq_61 (dst 26 rd_prog_14_method_13_code_1 rfl)
theorem dX12_readRule_59 : decode cX12_readRule 59 = .ok (.iload_n 1, 1) := dq_27 (dst 27 rd_prog_14_method_13_code_1 rfl)
theorem dX12_readRule_60 : decode cX12_readRule 60 = .ok (.iconst 1, 1) := dq_4 (dst 28 rd_prog_14_method_13_code_1 rfl)
theorem dX12_readRule_61 : decode cX12_readRule 61 = .ok (.iload_n 2, 1) := dq_28 (dst 29 rd_prog_14_method_13_code_1 rfl)
theorem dX12_readRule_62 : decode cX12_readRule 62 = .ok (.ishl, 1) := dq_120 (dst 30 rd_prog_14_method_13_code_1 rfl)
theorem dX12_readRule_63 : decode cX12_readRule 63 = .ok (.iconst (-1), 1) := dq_2 (dst 31 rd_prog_14_method_13_code_1 rfl)
theorem dX12_readRule_64 : decode cX12_readRule 64 = .ok (.ixor, 1) := dq_130 (dst 0 rd_prog_14_method_13_code_2 rfl)
theorem dX12_readRule_65 : decode cX12_readRule 65 = .ok (.iand, 1) := dq_126 (dst 1 rd_prog_14_method_13_code_2 rfl)
theorem dX12_readRule_66 : decode cX12_readRule 66 = .ok (.istore_n 1, 1) := dq_60 (dst 2 rd_prog_14_method_13_code_2 rfl)
theorem dX12_readRule_67 : decode cX12_readRule 67 = .ok (.aload_n 0, 1) := dq_42 (dst 3 rd_prog_14_method_13_code_2 rfl)
theorem dX12_readRule_68 : decode cX12_readRule 68 = .ok (.getfield 22, 3) := dq_180 (dst 4 rd_prog_14_method_13_code_2 rfl) rfl
theorem dX12_readRule_71 : decode cX12_readRule 71 = .ok (.iload_n 2, 1) := dq_28 (dst 7 rd_prog_14_method_13_code_2 rfl)
theorem dX12_readRule_72 : decode cX12_readRule 72 = .ok (.aload_n 0, 1) := dq_42 (dst 8 rd_prog_14_method_13_code_2 rfl)
theorem dX12_readRule_73 : decode cX12_readRule 73 = .ok (.bipush 31, 2) := dq_16 (dst 9 rd_prog_14_method_13_code_2 rfl) (by decide +kernel)
theorem dX12_readRule_75 : decode cX12_readRule 75 = .ok (.invokevirtual 119, 3) := dq_182 (dst 11 rd_prog_14_method_13_code_2 rfl) rfl
theorem dX12_readRule_78 : decode cX12_readRule 78 = .ok (.iastore, 1) := dq_79 (dst 14 rd_prog_14_method_13_code_2 rfl)
theorem dX12_readRule_79 : decode cX12_readRule 79 = .ok (.aload_n 0, 1) := dq_42 (dst 15 rd_prog_14_method_13_code_2 rfl)
theorem dX12_readRule_80 : decode cX12_readRule 80 = .ok (.dup, 1) := dq_89 (dst 16 rd_prog_14_method_13_code_2 rfl)
theorem dX12_readRule_81 : decode cX12_readRule 81 = .ok (.getfield 130, 3) := dq_180 (dst 17 rd_prog_14_method_13_code_2 rfl) rfl
theorem dX12_readRule_84 : decode cX12_readRule 84 = .ok (.iconst 1, 1) := dq_4 (dst 20 rd_prog_14_method_13_code_2 rfl)
theorem dX12_readRule_85 : decode cX12_readRule 85 = .ok (.iadd, 1) := dq_96 (dst 21 rd_prog_14_method_13_code_2 rfl)
theorem dX12_readRule_86 : decode cX12_readRule 86 = .ok (.putfield 130, 3) := dq_181 (dst 22 rd_prog_14_method_13_code_2 rfl) rfl
theorem dX12_readRule_89 : decode cX12_readRule 89 = .ok (.goto (-70), 3) := dq_167 (dst 25 rd_prog_14_method_13_code_2 rfl) (by decide +kernel)
theorem dX12_readRule_92 : decode cX12_readRule 92 = .ok (.aload_n 0, 1) := dq_42 (dst 28 rd_prog_14_method_13_code_2 rfl)
theorem dX12_readRule_93 : decode cX12_readRule 93 = .ok (.getfield 108, 3) := dq_180 (dst 29 rd_prog_14_method_13_code_2 rfl) rfl
theorem dX12_readRule_96 : decode cX12_readRule 96 = .ok (.bipush (-9), 2) := dq_16 (dst 0 rd_prog_14_method_13_code_3 rfl) (by decide +kernel)
theorem dX12_readRule_98 : decode cX12_readRule 98 = .ok (.if_icmp .ne 41, 3) := dq_160 (dst 2 rd_prog_14_method_13_code_3 rfl) (by decide +kernel)
theorem dX12_readRule_101 : decode cX12_readRule 101 = .ok (.aload_n 0, 1) := dq_42 (dst 5 rd_prog_14_method_13_code_3 rfl)
theorem dX12_readRule_102 : decode cX12_readRule 102 = .ok (.getfield 111, 3) := dq_180 (dst 6 rd_prog_14_method_13_code_3 rfl) rfl
theorem dX12_readRule_105 : decode cX12_readRule 105 = .ok (.aload_n 0, 1) := dq_42 (dst 9 rd_prog_14_method_13_code_3 rfl)
theorem dX12_readRule_106 : decode cX12_readRule 106 = .ok (.getfield 103, 3) := dq_180 (dst 10 rd_prog_14_method_13_code_3 rfl) rfl
theorem dX12_readRule_109 : decode cX12_readRule 109 = .ok (.if_icmp .ge 30, 3) := dq_162 (dst 13 rd_prog_14_method_13_code_3 rfl) (by decide +kernel)
theorem dX12_readRule_112 : decode cX12_readRule 112 = .ok (.aload_n 0, 1) := dq_42 (dst 16 rd_prog_14_method_13_code_3 rfl)
theorem dX12_readRule_113 : decode cX12_readRule 113 = .ok (.getfield 16, 3) := dq_180 (dst 17 rd_prog_14_method_13_code_3 rfl) rfl
theorem dX12_readRule_116 : decode cX12_readRule 116 = .ok (.aload_n 0, 1) := dq_42 (dst 20 rd_prog_14_method_13_code_3 rfl)
theorem dX12_readRule_117 : decode cX12_readRule 117 = .ok (.getfield 111, 3) := dq_180 (dst 21 rd_prog_14_method_13_code_3 rfl) rfl
theorem dX12_readRule_120 : decode cX12_readRule 120 = .ok (.iaload, 1) := dq_46 (dst 24 rd_prog_14_method_13_code_3 rfl)
theorem dX12_readRule_121 : decode cX12_readRule 121 = .ok (.bipush 76, 2) := dq_16 (dst 25 rd_prog_14_method_13_code_3 rfl) (by decide +kernel)
theorem dX12_readRule_123 : decode cX12_readRule 123 = .ok (.if_icmp .ne 16, 3) := dq_160 (dst 27 rd_prog_14_method_13_code_3 rfl) (by decide +kernel)
theorem dX12_readRule_126 : decode cX12_readRule 126 = .ok (.aload_n 0, 1) := dq_42 (dst 30 rd_prog_14_method_13_code_3 rfl)
theorem dX12_readRule_127 : decode cX12_readRule 127 = .ok (.dup, 1) := dq_89 (dst 31 rd_prog_14_method_13_code_3 rfl)
theorem dX12_readRule_128 : decode cX12_readRule 128 = .ok (.getfield 111, 3) := dq_180 (dst 0 rd_prog_14_method_13_code_4 rfl) rfl
theorem dX12_readRule_131 : decode cX12_readRule 131 = .ok (.iconst 1, 1) := dq_4 (dst 3 rd_prog_14_method_13_code_4 rfl)
theorem dX12_readRule_132 : decode cX12_readRule 132 = .ok (.iadd, 1) := dq_96 (dst 4 rd_prog_14_method_13_code_4 rfl)
theorem dX12_readRule_133 : decode cX12_readRule 133 = .ok (.putfield 111, 3) := dq_181 (dst 5 rd_prog_14_method_13_code_4 rfl) rfl
theorem dX12_readRule_136 : decode cX12_readRule 136 = .ok (.goto 7, 3) := dq_167 (dst 8 rd_prog_14_method_13_code_4 rfl) (by decide +kernel)
theorem dX12_readRule_139 : decode cX12_readRule 139 = .ok (.aload_n 0, 1) := dq_42 (dst 11 rd_prog_14_method_13_code_4 rfl)
theorem dX12_readRule_140 : decode cX12_readRule 140 = .ok (.invokevirtual 116, 3) := dq_182 (dst 12 rd_prog_14_method_13_code_4 rfl) rfl
theorem dX12_readRule_143 : decode cX12_readRule 143 = .ok (.aload_n 0, 1) := dq_42 (dst 15 rd_prog_14_method_13_code_4 rfl)
theorem dX12_readRule_144 : decode cX12_readRule 144 = .ok (.bipush 31, 2) := dq_16 (dst 16 rd_prog_14_method_13_code_4 rfl) (by decide +kernel)
theorem dX12_readRule_146 : decode cX12_readRule 146 = .ok (.invokevirtual 119, 3) := dq_182 (dst 18 rd_prog_14_method_13_code_4 rfl) rfl
theorem dX12_readRule_149 : decode cX12_readRule 149 = .ok (.istore_n 2, 1) := dq_61 (dst 21 rd_prog_14_method_13_code_4 rfl)
theorem dX12_readRule_150 : decode cX12_readRule 150 = .ok (.iconst 0, 1) := dq_3 (dst 22 rd_prog_14_method_13_code_4 rfl)
theorem dX12_readRule_151 : decode cX12_readRule 151 = .ok (.istore_n 3, 1) := dq_62 (dst 23 rd_prog_14_method_13_code_4 rfl)
theorem dX12_readRule_152 : decode cX12_readRule 152 = .ok (.iload_n 3, 1) := dq_29 (dst 24 rd_prog_14_method_13_code_4 rfl)
theorem dX12_readRule_153 : decode cX12_readRule 153 = .ok (.iconst 5, 1) := dq_8 (dst 25 rd_prog_14_method_13_code_4 rfl)
theorem dX12_readRule_154 : decode cX12_readRule 154 = .ok (.if_icmp .ge 34, 3) := dq_162 (dst 26 rd_prog_14_method_13_code_4 rfl) (by decide +kernel)
theorem dX12_readRule_157 : decode cX12_readRule 157 = .ok (.aload_n 0, 1) := dq_42 (dst 29 rd_prog_14_method_13_code_4 rfl)
theorem dX12_readRule_158 : decode cX12_readRule 158 = .ok (.getfield 22, 3) := dq_180 (dst 30 rd_prog_14_method_13_code_4 rfl) rfl
theorem dX12_readRule_161 : decode cX12_readRule 161 = .ok (.iload_n 3, 1) := dq_29 (dst 1 rd_prog_14_method_13_code_5 rfl)
theorem dX12_readRule_162 : decode cX12_readRule 162 = .ok (.iload_n 1, 1) := dq_27 (dst 2 rd_prog_14_method_13_code_5 rfl)
theorem dX12_readRule_163 : decode cX12_readRule 163 = .ok (.iload_n 3, 1) := dq_29 (dst 3 rd_prog_14_method_13_code_5 rfl)
theorem dX12_readRule_164 : decode cX12_readRule 164 = .ok (.ishr, 1) := dq_122 (dst 4 rd_prog_14_method_13_code_5 rfl)
theorem dX12_readRule_165 : decode cX12_readRule 165 = .ok (.iconst 1, 1) := dq_4 (dst 5 rd_prog_14_method_13_code_5 rfl)
theorem dX12_readRule_166 : decode cX12_readRule 166 = .ok (.iand, 1) := dq_126 (dst 6 rd_prog_14_method_13_code_5 rfl)
theorem dX12_readRule_167 : decode cX12_readRule 167 = .ok (.iconst 1, 1) := dq_4 (dst 7 rd_prog_14_method_13_code_5 rfl)
theorem dX12_readRule_168 : decode cX12_readRule 168 = .ok (.if_icmp .ne 7, 3) := dq_160 (dst 8 rd_prog_14_method_13_code_5 rfl) (by decide +kernel)
theorem dX12_readRule_171 : decode cX12_readRule 171 = .ok (.iload_n 2, 1) := dq_28 (dst 11 rd_prog_14_method_13_code_5 rfl)
theorem dX12_readRule_172 : decode cX12_readRule 172 = .ok (.goto 9, 3) := dq_167 (dst 12 rd_prog_14_method_13_code_5 rfl) (by decide +kernel)
theorem dX12_readRule_175 : decode cX12_readRule 175 = .ok (.aload_n 0, 1) := dq_42 (dst 15 rd_prog_14_method_13_code_5 rfl)
theorem dX12_readRule_176 : decode cX12_readRule 176 = .ok (.getfield 22, 3) := dq_180 (dst 16 rd_prog_14_method_13_code_5 rfl) rfl
theorem dX12_readRule_179 : decode cX12_readRule 179 = .ok (.iload_n 3, 1) := dq_29 (dst 19 rd_prog_14_method_13_code_5 rfl)
theorem dX12_readRule_180 : decode cX12_readRule 180 = .ok (.iaload, 1) := dq_46 (dst 20 rd_prog_14_method_13_code_5 rfl)
theorem dX12_readRule_181 : decode cX12_readRule 181 = .ok (.iastore, 1) := dq_79 (dst 21 rd_prog_14_method_13_code_5 rfl)
theorem dX12_readRule_182 : decode cX12_readRule 182 = .ok (.iinc 3 1, 3) := dq_132 (dst 22 rd_prog_14_method_13_code_5 rfl) rfl (by decide +kernel)
theorem dX12_readRule_185 : decode cX12_readRule 185 = .ok (.goto (-33), 3) := dq_167 (dst 25 rd_prog_14_method_13_code_5 rfl) (by decide +kernel)
theorem dX12_readRule_188 : decode cX12_readRule 188 = .ok (.aload_n 0, 1) := dq_42 (dst 28 rd_prog_14_method_13_code_5 rfl)
theorem dX12_readRule_189 : decode cX12_readRule 189 = .ok (.getfield 108, 3) := dq_180 (dst 29 rd_prog_14_method_13_code_5 rfl) rfl
theorem dX12_readRule_192 : decode cX12_readRule 192 = .ok (.bipush (-9), 2) := dq_16 (dst 0 rd_prog_14_method_13_code_6 rfl) (by decide +kernel)
theorem dX12_readRule_194 : decode cX12_readRule 194 = .ok (.if_icmp .ne 18, 3) := dq_160 (dst 2 rd_prog_14_method_13_code_6 rfl) (by decide +kernel)
theorem dX12_readRule_197 : decode cX12_readRule 197 = .ok (.aload_n 0, 1) := dq_42 (dst 5 rd_prog_14_method_13_code_6 rfl)
theorem dX12_readRule_198 : decode cX12_readRule 198 = .ok (.getfield 111, 3) := dq_180 (dst 6 rd_prog_14_method_13_code_6 rfl) rfl
theorem dX12_readRule_201 : decode cX12_readRule 201 = .ok (.aload_n 0, 1) := dq_42 (dst 9 rd_prog_14_method_13_code_6 rfl)
theorem dX12_readRule_202 : decode cX12_readRule 202 = .ok (.getfield 103, 3) := dq_180 (dst 10 rd_prog_14_method_13_code_6 rfl) rfl
theorem dX12_readRule_205 : decode cX12_readRule 205 = .ok (.if_icmp .ge 7, 3) := dq_162 (dst 13 rd_prog_14_method_13_code_6 rfl) (by decide +kernel)
theorem dX12_readRule_208 : decode cX12_readRule 208 = .ok (.aload_n 0, 1) := dq_42 (dst 16 rd_prog_14_method_13_code_6 rfl)
theorem dX12_readRule_209 : decode cX12_readRule 209 = .ok (.invokevirtual 116, 3) := dq_182 (dst 17 rd_prog_14_method_13_code_6 rfl) rfl
theorem dX12_readRule_212 : decode cX12_readRule 212 = .ok (.aload_n 0, 1) := dq_42 (dst 20 rd_prog_14_method_13_code_6 rfl)
theorem dX12_readRule_213 : decode cX12_readRule 213 = .ok (.getfield 108, 3) := dq_180 (dst 21 rd_prog_14_method_13_code_6 rfl) rfl
theorem dX12_readRule_216 : decode cX12_readRule 216 = .ok (.ireturn, 1) := dq_172 (dst 24 rd_prog_14_method_13_code_6 rfl)
theorem lf_X12_fault_1 : ∀ w ∈ wsX12_fault_r1, w ∈ wsX12_fault := fun _ h => (List.mem_cons_of_mem _ (List.mem_append_left _ (List.mem_append_left _ h)))
theorem lf_X12_fault_2 : ∀ w ∈ wsX12_fault_r2, w ∈ wsX12_fault := fun _ h => (List.mem_cons_of_mem _ (List.mem_append_left _ (List.mem_append_right _ (List.mem_append_left _ h))))
theorem lf_X12_fault_3 : ∀ w ∈ wsX12_fault_r3, w ∈ wsX12_fault := fun _ h => (List.mem_cons_of_mem _ (List.mem_append_left _ (List.mem_append_right _ (List.mem_append_right _ h))))
theorem lf_X12_fault_4 : ∀ w ∈ wsX120, w ∈ wsX12_fault := fun _ h => (List.mem_cons_of_mem _ (List.mem_append_right _ h))
set_option maxRecDepth 20000 in
theorem ggX12_fault_X12_readRule : GoodIn wsX12_fault wsX12_readRule := (gd_cons (lf_X12_fault_1 _ (List.mem_of_getElem? (i := 4) rfl)) rfl (goodIn_app (gd_cons (lf_X12_fault_1 _ (List.mem_of_getElem? (i := 5) rfl)) rfl (gd_cons (lf_X12_fault_1 _ (List.mem_of_getElem? (i := 6) rfl)) rfl (gd_cons (lf_X12_fault_1 _ (List.mem_of_getElem? (i := 7) rfl)) rfl (gd_cons (lf_X12_fault_1 _ (List.mem_of_getElem? (i := 8) rfl)) rfl (gd_cons (lf_X12_fault_1 _ (List.mem_of_getElem? (i := 9) rfl)) rfl (gd_cons (lf_X12_fault_1 _ (List.mem_of_getElem? (i := 10) rfl)) rfl (gd_cons (lf_X12_fault_1 _ (List.mem_of_getElem? (i := 11) rfl)) rfl (gd_cons (lf_X12_fault_1 _ (List.mem_of_getElem? (i := 12) rfl)) rfl (gd_cons (lf_X12_fault_1 _ (List.mem_of_getElem? (i := 13) rfl)) rfl (gd_cons (lf_X12_fault_1 _ (List.mem_of_getElem? (i := 3) rfl)) rfl (gd_cons (lf_X12_fault_1 _ (List.mem_of_getElem? (i := 14) rfl)) rfl (gd_cons (lf_X12_fault_1 _ (List.mem_of_getElem? (i := 15) rfl)) rfl (gd_cons (lf_X12_fault_1 _ (List.mem_of_getElem? (i := 16) rfl)) rfl (gd_cons (lf_X12_fault_1 _ (List.mem_of_getElem? (i := 17) rfl)) rfl (gd_cons (lf_X12_fault_1 _ (List.mem_of_getElem? (i := 18) rfl)) rfl (gd_cons (lf_X12_fault_1 _ (List.mem_of_getElem? (i := 19) rfl)) rfl (gd_cons (lf_X12_fault_1 _ (List.mem_of_getElem? (i := 20) rfl)) rfl (gd_cons (lf_X12_fault_1 _ (List.mem_of_getElem? (i := 21) rfl)) rfl (gd_cons (lf_X12_fault_1 _ (List.mem_of_getElem? (i := 22) rfl)) rfl (gd_nil _)))))))))))))))))))) (goodIn_sub lf_X12_fault_4 ga_wsX120)))
set_option maxRecDepth 20000 in
theorem gX12_fault_X12_readRule : GoodIn wsX12_fault (wsV RX12 133 RX12 yX12_readRule wsX12_readRule) := goodIn_app (gd_cons (lf_X12_fault_1 _ (List.mem_of_getElem? (i := 0) rfl)) rfl (gd_cons (lf_X12_fault_1 _ (List.mem_of_getElem? (i := 1) rfl)) rfl (gd_cons (lf_X12_fault_1 _ (List.mem_of_getElem? (i := 2) rfl)) rfl (gd_cons (lf_X12_fault_1 _ (List.mem_of_getElem? (i := 3) rfl)) rfl (gd_nil _))))) ggX12_fault_X12_readRule
set_option maxRecDepth 20000 in
theorem ggX12_fault_X12_readHouse : GoodIn wsX12_fault wsX12_readHouse := (gd_cons (lf_X12_fault_2 _ (List.mem_of_getElem? (i := 2) rfl)) rfl (goodIn_app (goodIn_app (gd_cons (lf_X12_fault_1 _ (List.mem_of_getElem? (i := 5) rfl)) rfl (gd_cons (lf_X12_fault_1 _ (List.mem_of_getElem? (i := 6) rfl)) rfl (gd_cons (lf_X12_fault_1 _ (List.mem_of_getElem? (i := 8) rfl)) rfl (gd_cons (lf_X12_fault_1 _ (List.mem_of_getElem? (i := 9) rfl)) rfl (gd_cons (lf_X12_fault_2 _ (List.mem_of_getElem? (i := 3) rfl)) rfl (gd_cons (lf_X12_fault_2 _ (List.mem_of_getElem? (i := 4) rfl)) rfl (gd_cons (lf_X12_fault_2 _ (List.mem_of_getElem? (i := 5) rfl)) rfl (gd_cons (lf_X12_fault_2 _ (List.mem_of_getElem? (i := 6) rfl)) rfl (gd_cons (lf_X12_fault_1 _ (List.mem_of_getElem? (i := 3) rfl)) rfl (gd_cons (lf_X12_fault_2 _ (List.mem_of_getElem? (i := 7) rfl)) rfl (gd_cons (lf_X12_fault_2 _ (List.mem_of_getElem? (i := 8) rfl)) rfl (gd_cons (lf_X12_fault_2 _ (List.mem_of_getElem? (i := 9) rfl)) rfl (gd_cons (lf_X12_fault_2 _ (List.mem_of_getElem? (i := 10) rfl)) rfl (gd_cons (lf_X12_fault_2 _ (List.mem_of_getElem? (i := 11) rfl)) rfl (gd_cons (lf_X12_fault_2 _ (List.mem_of_getElem? (i := 12) rfl)) rfl (gd_cons (lf_X12_fault_2 _ (List.mem_of_getElem? (i := 13) rfl)) rfl (gd_cons (lf_X12_fault_2 _ (List.mem_of_getElem? (i := 14) rfl)) rfl (gd_cons (lf_X12_fault_2 _ (List.mem_of_getElem? (i := 15) rfl)) rfl (gd_cons (lf_X12_fault_2 _ (List.mem_of_getElem? (i := 16) rfl)) rfl (gd_cons (lf_X12_fault_2 _ (List.mem_of_getElem? (i := 17) rfl)) rfl (gd_cons (lf_X12_fault_2 _ (List.mem_of_getElem? (i := 18) rfl)) rfl (gd_cons (lf_X12_fault_1 _ (List.mem_of_getElem? (i := 16) rfl)) rfl (gd_cons (lf_X12_fault_1 _ (List.mem_of_getElem? (i := 17) rfl)) rfl (gd_cons (lf_X12_fault_1 _ (List.mem_of_getElem? (i := 18) rfl)) rfl (gd_nil _))))))))))))))))))))))))) (gd_cons (lf_X12_fault_1 _ (List.mem_of_getElem? (i := 11) rfl)) rfl (gd_cons (lf_X12_fault_1 _ (List.mem_of_getElem? (i := 12) rfl)) rfl (gd_cons (lf_X12_fault_1 _ (List.mem_of_getElem? (i := 13) rfl)) rfl (gd_cons (lf_X12_fault_1 _ (List.mem_of_getElem? (i := 14) rfl)) rfl (gd_cons (lf_X12_fault_1 _ (List.mem_of_getElem? (i := 15) rfl)) rfl (gd_cons (lf_X12_fault_1 _ (List.mem_of_getElem? (i := 19) rfl)) rfl (gd_cons (lf_X12_fault_1 _ (List.mem_of_getElem? (i := 20) rfl)) rfl (gd_cons (lf_X12_fault_1 _ (List.mem_of_getElem? (i := 21) rfl)) rfl (gd_cons (lf_X12_fault_1 _ (List.mem_of_getElem? (i := 22) rfl)) rfl (gd_cons (lf_X12_fault_2 _ (List.mem_of_getElem? (i := 19) rfl)) rfl (gd_cons (lf_X12_fault_2 _ (List.mem_of_getElem? (i := 20) rfl)) rfl (gd_cons (lf_X12_fault_2 _ (List.mem_of_getElem? (i := 21) rfl)) rfl (gd_cons (lf_X12_fault_2 _ (List.mem_of_getElem? (i := 22) rfl)) rfl (gd_cons (lf_X12_fault_2 _ (List.mem_of_getElem? (i := 23) rfl)) rfl (gd_cons (lf_X12_fault_3 _ (List.mem_of_getElem? (i := 0) rfl)) rfl (gd_cons (lf_X12_fault_3 _ (List.mem_of_getElem? (i := 1) rfl)) rfl (gd_nil _)))))))))))))))))) (goodIn_sub lf_X12_fault_4 ga_wsX120)))
set_option maxRecDepth 20000 in
theorem gX12_fault_X12_readHouse : GoodIn wsX12_fault (wsV RX12 137 RX12 yX12_readHouse wsX12_readHouse) := goodIn_app (gd_cons (lf_X12_fault_1 _ (List.mem_of_getElem? (i := 23) rfl)) rfl (gd_cons (lf_X12_fault_2 _ (List.mem_of_getElem? (i := 0) rfl)) rfl (gd_cons (lf_X12_fault_2 _ (List.mem_of_getElem? (i := 1) rfl)) rfl (gd_cons (lf_X12_fault_1 _ (List.mem_of_getElem? (i := 3) rfl)) rfl (gd_nil _))))) ggX12_fault_X12_readHouse
theorem dX12_fault_0 : decode cX12_fault 0 = .ok (.iload_n 1, 1) := dq_27 (dst 0 rd_prog_14_method_14_code_0 rfl)
theorem dX12_fault_1 : decode cX12_fault 1 = .ok (.ifCond .eq 10, 3) := dq_153 (dst 1 rd_prog_14_method_14_code_0 rfl) (by decide +kernel)
theorem dX12_fault_4 : decode cX12_fault 4 = .ok (.aload_n 0, 1) := dq_42 (dst 4 rd_prog_14_method_14_code_0 rfl)
theorem dX12_fault_5 : decode cX12_fault 5 = .ok (.invokevirtual 133, 3) := dq_182 (dst 5 rd_prog_14_method_14_code_0 rfl) rfl
theorem dX12_fault_8 : decode cX12_fault 8 = .ok (.goto 7, 3) := dq_167 (dst 8 rd_prog_14_method_14_code_0 rfl) (by decide +kernel)
theorem dX12_fault_11 : decode cX12_fault 11 = .ok (.aload_n 0, 1) := dq_42 (dst 11 rd_prog_14_method_14_code_0 rfl)
theorem dX12_fault_12 : decode cX12_fault 12 = .ok (.invokevirtual 137, 3) := dq_182 (dst 12 rd_prog_14_method_14_code_0 rfl) rfl
theorem dX12_fault_15 : decode cX12_fault 15 = .ok (.ireturn, 1) := dq_172 (dst 15 rd_prog_14_method_14_code_0 rfl)
theorem lf_X12_make_1 : ∀ w ∈ wsX12_make_r1, w ∈ wsX12_make := fun _ h => (List.mem_cons_of_mem _ (List.mem_append_left _ (List.mem_append_left _ h)))
theorem lf_X12_make_2 : ∀ w ∈ wsX12_make_r2, w ∈ wsX12_make := fun _ h => (List.mem_cons_of_mem _ (List.mem_append_left _ (List.mem_append_right _ (List.mem_append_left _ h))))
theorem lf_X12_make_3 : ∀ w ∈ wsX12_make_r3, w ∈ wsX12_make := fun _ h => (List.mem_cons_of_mem _ (List.mem_append_left _ (List.mem_append_right _ (List.mem_append_right _ h))))
theorem lf_X12_make_4 : ∀ w ∈ wsX120, w ∈ wsX12_make := fun _ h => (List.mem_cons_of_mem _ (List.mem_append_right _ h))
set_option maxRecDepth 20000 in
theorem ggX12_make_X12_readHouse : GoodIn wsX12_make wsX12_readHouse := (gd_cons (lf_X12_make_1 _ (List.mem_of_getElem? (i := 9) rfl)) rfl (goodIn_app (goodIn_app (gd_cons (lf_X12_make_1 _ (List.mem_of_getElem? (i := 10) rfl)) rfl (gd_cons (lf_X12_make_1 _ (List.mem_of_getElem? (i := 11) rfl)) rfl (gd_cons (lf_X12_make_1 _ (List.mem_of_getElem? (i := 12) rfl)) rfl (gd_cons (lf_X12_make_1 _ (List.mem_of_getElem? (i := 13) rfl)) rfl (gd_cons (lf_X12_make_1 _ (List.mem_of_getElem? (i := 14) rfl)) rfl (gd_cons (lf_X12_make_1 _ (List.mem_of_getElem? (i := 15) rfl)) rfl (gd_cons (lf_X12_make_1 _ (List.mem_of_getElem? (i := 16) rfl)) rfl (gd_cons (lf_X12_make_1 _ (List.mem_of_getElem? (i := 17) rfl)) rfl (gd_cons (lf_X12_make_1 _ (List.mem_of_getElem? (i := 8) rfl)) rfl (gd_cons (lf_X12_make_1 _ (List.mem_of_getElem? (i := 18) rfl)) rfl (gd_cons (lf_X12_make_1 _ (List.mem_of_getElem? (i := 19) rfl)) rfl (gd_cons (lf_X12_make_1 _ (List.mem_of_getElem? (i := 20) rfl)) rfl (gd_cons (lf_X12_make_1 _ (List.mem_of_getElem? (i := 21) rfl)) rfl (gd_cons (lf_X12_make_1 _ (List.mem_of_getElem? (i := 22) rfl)) rfl (gd_cons (lf_X12_make_1 _ (List.mem_of_getElem? (i := 23) rfl)) rfl (gd_cons (lf_X12_make_2 _ (List.mem_of_getElem? (i := 0) rfl)) rfl (gd_cons (lf_X12_make_2 _ (List.mem_of_getElem? (i := 1) rfl)) rfl (gd_cons (lf_X12_make_2 _ (List.mem_of_getElem? (i := 2) rfl)) rfl (gd_cons (lf_X12_make_2 _ (List.mem_of_getElem? (i := 3) rfl)) rfl (gd_cons (lf_X12_make_2 _ (List.mem_of_getElem? (i := 4) rfl)) rfl (gd_cons (lf_X12_make_2 _ (List.mem_of_getElem? (i := 5) rfl)) rfl (gd_cons (lf_X12_make_2 _ (List.mem_of_getElem? (i := 6) rfl)) rfl (gd_cons (lf_X12_make_2 _ (List.mem_of_getElem? (i := 7) rfl)) rfl (gd_cons (lf_X12_make_2 _ (List.mem_of_getElem? (i := 8) rfl)) rfl (gd_nil _))))))))))))))))))))))))) (gd_cons (lf_X12_make_2 _ (List.mem_of_getElem? (i := 9) rfl)) rfl (gd_cons (lf_X12_make_2 _ (List.mem_of_getElem? (i := 10) rfl)) rfl (gd_cons (lf_X12_make_2 _ (List.mem_of_getElem? (i := 11) rfl)) rfl (gd_cons (lf_X12_make_2 _ (List.mem_of_getElem? (i := 12) rfl)) rfl (gd_cons (lf_X12_make_2 _ (List.mem_of_getElem? (i := 13) rfl)) rfl (gd_cons (lf_X12_make_2 _ (List.mem_of_getElem? (i := 14) rfl)) rfl (gd_cons (lf_X12_make_2 _ (List.mem_of_getElem? (i := 15) rfl)) rfl (gd_cons (lf_X12_make_2 _ (List.mem_of_getElem? (i := 16) rfl)) rfl (gd_cons (lf_X12_make_2 _ (List.mem_of_getElem? (i := 17) rfl)) rfl (gd_cons (lf_X12_make_2 _ (List.mem_of_getElem? (i := 18) rfl)) rfl (gd_cons (lf_X12_make_2 _ (List.mem_of_getElem? (i := 19) rfl)) rfl (gd_cons (lf_X12_make_2 _ (List.mem_of_getElem? (i := 20) rfl)) rfl (gd_cons (lf_X12_make_2 _ (List.mem_of_getElem? (i := 21) rfl)) rfl (gd_cons (lf_X12_make_2 _ (List.mem_of_getElem? (i := 22) rfl)) rfl (gd_cons (lf_X12_make_2 _ (List.mem_of_getElem? (i := 23) rfl)) rfl (gd_cons (lf_X12_make_3 _ (List.mem_of_getElem? (i := 0) rfl)) rfl (gd_nil _)))))))))))))))))) (goodIn_sub lf_X12_make_4 ga_wsX120)))
set_option maxRecDepth 20000 in
theorem gX12_make_X12_readHouse : GoodIn wsX12_make (wsV RX12 137 RX12 yX12_readHouse wsX12_readHouse) := goodIn_app (gd_cons (lf_X12_make_1 _ (List.mem_of_getElem? (i := 5) rfl)) rfl (gd_cons (lf_X12_make_1 _ (List.mem_of_getElem? (i := 6) rfl)) rfl (gd_cons (lf_X12_make_1 _ (List.mem_of_getElem? (i := 7) rfl)) rfl (gd_cons (lf_X12_make_1 _ (List.mem_of_getElem? (i := 8) rfl)) rfl (gd_nil _))))) ggX12_make_X12_readHouse
set_option maxRecDepth 20000 in
theorem ggX12_make_X12_takeHouse : GoodIn wsX12_make wsX12_takeHouse := (gd_cons (lf_X12_make_3 _ (List.mem_of_getElem? (i := 4) rfl)) rfl (goodIn_app (gd_cons (lf_X12_make_1 _ (List.mem_of_getElem? (i := 4) rfl)) rfl (gd_cons (lf_X12_make_1 _ (List.mem_of_getElem? (i := 14) rfl)) rfl (gd_nil _))) (goodIn_sub lf_X12_make_4 ga_wsX120)))
set_option maxRecDepth 20000 in
theorem gX12_make_X12_takeHouse : GoodIn wsX12_make (wsV RX12 66 RX12 yX12_takeHouse wsX12_takeHouse) := goodIn_app (gd_cons (lf_X12_make_3 _ (List.mem_of_getElem? (i := 1) rfl)) rfl (gd_cons (lf_X12_make_3 _ (List.mem_of_getElem? (i := 2) rfl)) rfl (gd_cons (lf_X12_make_3 _ (List.mem_of_getElem? (i := 3) rfl)) rfl (gd_cons (lf_X12_make_1 _ (List.mem_of_getElem? (i := 8) rfl)) rfl (gd_nil _))))) ggX12_make_X12_takeHouse
theorem dX12_make_0 : decode cX12_make 0 = .ok (.aload_n 0, 1) := dq_42 (dst 0 rd_prog_14_method_15_code_0 rfl)
theorem dX12_make_1 : decode cX12_make 1 = .ok (.invokevirtual 137, 3) := dq_182 (dst 1 rd_prog_14_method_15_code_0 rfl) rfl
theorem dX12_make_4 : decode cX12_make 4 = .ok (.bipush (-9), 2) := dq_16 (dst 4 rd_prog_14_method_15_code_0 rfl) (by decide +kernel)
theorem dX12_make_6 : decode cX12_make 6 = .ok (.if_icmp .eq 6, 3) := dq_159 (dst 6 rd_prog_14_method_15_code_0 rfl) (by decide +kernel)
theorem dX12_make_9 : decode cX12_make 9 = .ok (.bipush (-3), 2) := dq_16 (dst 9 rd_prog_14_method_15_code_0 rfl) (by decide +kernel)
theorem dX12_make_11 : decode cX12_make 11 = .ok (.ireturn, 1) := dq_172 (dst 11 rd_prog_14_method_15_code_0 rfl)
theorem dX12_make_12 : decode cX12_make 12 = .ok (.aload_n 0, 1) := dq_42 (dst 12 rd_prog_14_method_15_code_0 rfl)
theorem dX12_make_13 : decode cX12_make 13 = .ok (.invokevirtual 66, 3) := dq_182 (dst 13 rd_prog_14_method_15_code_0 rfl) rfl
theorem dX12_make_16 : decode cX12_make 16 = .ok (.aload_n 0, 1) := dq_42 (dst 16 rd_prog_14_method_15_code_0 rfl)
theorem dX12_make_17 : decode cX12_make 17 = .ok (.getfield 50, 3) := dq_180 (dst 17 rd_prog_14_method_15_code_0 rfl) rfl
theorem dX12_make_20 : decode cX12_make 20 = .ok (.iconst 0, 1) := dq_3 (dst 20 rd_prog_14_method_15_code_0 rfl)
theorem dX12_make_21 : decode cX12_make 21 = .ok (.iconst 0, 1) := dq_3 (dst 21 rd_prog_14_method_15_code_0 rfl)
theorem dX12_make_22 : decode cX12_make 22 = .ok (.bastore, 1) := dq_84 (dst 22 rd_prog_14_method_15_code_0 rfl)
theorem dX12_make_23 : decode cX12_make 23 = .ok (.aload_n 0, 1) := dq_42 (dst 23 rd_prog_14_method_15_code_0 rfl)
theorem dX12_make_24 : decode cX12_make 24 = .ok (.getfield 50, 3) := dq_180 (dst 24 rd_prog_14_method_15_code_0 rfl) rfl
theorem dX12_make_27 : decode cX12_make 27 = .ok (.iconst 1, 1) := dq_4 (dst 27 rd_prog_14_method_15_code_0 rfl)
theorem dX12_make_28 : decode cX12_make 28 = .ok (.iconst 0, 1) := dq_3 (dst 28 rd_prog_14_method_15_code_0 rfl)
theorem dX12_make_29 : decode cX12_make 29 = .ok (.bastore, 1) := dq_84 (dst 29 rd_prog_14_method_15_code_0 rfl)
theorem dX12_make_30 : decode cX12_make 30 = .ok (.iconst 0, 1) := dq_3 (dst 30 rd_prog_14_method_15_code_0 rfl)
theorem dX12_make_31 : decode cX12_make 31 = .ok (.istore_n 1, 1) := dq_60 (dst 31 rd_prog_14_method_15_code_0 rfl)
theorem dX12_make_32 : decode cX12_make 32 = .ok (.iload_n 1, 1) := dq_27 (dst 0 rd_prog_14_method_15_code_1 rfl)
theorem dX12_make_33 : decode cX12_make 33 = .ok (.iconst 5, 1) := dq_8 (dst 1 rd_prog_14_method_15_code_1 rfl)
theorem dX12_make_34 : decode cX12_make 34 = .ok (.if_icmp .ge 16, 3) := dq_162 (dst 2 rd_prog_14_method_15_code_1 rfl) (by decide +kernel)
theorem dX12_make_37 : decode cX12_make 37 = .ok (.aload_n 0, 1) := dq_42 (dst 5 rd_prog_14_method_15_code_1 rfl)
theorem dX12_make_38 : decode cX12_make 38 = .ok (.getfield 47, 3) := dq_180 (dst 6 rd_prog_14_method_15_code_1 rfl) rfl
theorem dX12_make_41 : decode cX12_make 41 = .ok (.iload_n 1, 1) := dq_27 (dst 9 rd_prog_14_method_15_code_1 rfl)
theorem dX12_make_42 : decode cX12_make 42 = .ok (.iconst 0, 1) := dq_3 (dst 10 rd_prog_14_method_15_code_1 rfl)
theorem dX12_make_43 : decode cX12_make 43 = .ok (.iastore, 1) := dq_79 (dst 11 rd_prog_14_method_15_code_1 rfl)
theorem dX12_make_44 : decode cX12_make 44 = .ok (.iinc 1 1, 3) := dq_132 (dst 12 rd_prog_14_method_15_code_1 rfl) rfl (by decide +kernel)
theorem dX12_make_47 : decode cX12_make 47 = .ok (.goto (-15), 3) := dq_167 (dst 15 rd_prog_14_method_15_code_1 rfl) (by decide +kernel)
theorem dX12_make_50 : decode cX12_make 50 = .ok (.aload_n 0, 1) := dq_42 (dst 18 rd_prog_14_method_15_code_1 rfl)
theorem dX12_make_51 : decode cX12_make 51 = .ok (.iconst 0, 1) := dq_3 (dst 19 rd_prog_14_method_15_code_1 rfl)
theorem dX12_make_52 : decode cX12_make 52 = .ok (.putfield 140, 3) := dq_181 (dst 20 rd_prog_14_method_15_code_1 rfl) rfl
theorem dX12_make_55 : decode cX12_make 55 = .ok (.aload_n 0, 1) := dq_42 (dst 23 rd_prog_14_method_15_code_1 rfl)
theorem dX12_make_56 : decode cX12_make 56 = .ok (.iconst 0, 1) := dq_3 (dst 24 rd_prog_14_method_15_code_1 rfl)
theorem dX12_make_57 : decode cX12_make 57 = .ok (.putfield 143, 3) := dq_181 (dst 25 rd_prog_14_method_15_code_1 rfl) rfl
theorem dX12_make_60 : decode cX12_make 60 = .ok (.aload_n 0, 1) := dq_42 (dst 28 rd_prog_14_method_15_code_1 rfl)
theorem dX12_make_61 : decode cX12_make 61 = .ok (.getfield 13, 3) := dq_180 (dst 29 rd_prog_14_method_15_code_1 rfl) rfl
theorem dX12_make_64 : decode cX12_make 64 = .ok (.iconst 0, 1) := dq_3 (dst 0 rd_prog_14_method_15_code_2 rfl)
theorem dX12_make_65 : decode cX12_make 65 = .ok (.iaload, 1) := dq_46 (dst 1 rd_prog_14_method_15_code_2 rfl)
theorem dX12_make_66 : decode cX12_make 66 = .ok (.ireturn, 1) := dq_172 (dst 2 rd_prog_14_method_15_code_2 rfl)
theorem lf_X12_isRule_1 : ∀ w ∈ ([Cond.constantLong RX12 146 (2), Cond.methodLink RX12 73 yX12_in, Cond.static yX12_in, Cond.initialized RX12, Cond.code yX12_in cX12_in 6 (some .boolean)] : List Cond), w ∈ wsX12_isRule := fun _ h => (List.mem_cons_of_mem _ h)
set_option maxRecDepth 20000 in
theorem ggX12_isRule_X12_in : GoodIn wsX12_isRule wsX12_in := (gd_cons (lf_X12_isRule_1 _ (List.mem_of_getElem? (i := 4) rfl)) rfl (gd_nil _))
set_option maxRecDepth 20000 in
theorem gX12_isRule_X12_in : GoodIn wsX12_isRule (va_wsS RX12 73 yX12_in wsX12_in) := goodIn_app (gd_cons (lf_X12_isRule_1 _ (List.mem_of_getElem? (i := 1) rfl)) rfl (gd_cons (lf_X12_isRule_1 _ (List.mem_of_getElem? (i := 2) rfl)) rfl (gd_cons (lf_X12_isRule_1 _ (List.mem_of_getElem? (i := 3) rfl)) rfl (gd_nil _)))) ggX12_isRule_X12_in
theorem dX12_isRule_0 : decode cX12_isRule 0 = .ok (.iload_n 0, 1) := dq_26 (dst 0 rd_prog_14_method_16_code_0 rfl)
theorem dX12_isRule_1 : decode cX12_isRule 1 = .ok (.i2l, 1) := dq_133 (dst 1 rd_prog_14_method_16_code_0 rfl)
theorem dX12_isRule_2 : decode cX12_isRule 2 = .ok (.lconst 0, 1) := dq_9 (dst 2 rd_prog_14_method_16_code_0 rfl)
theorem dX12_isRule_3 : decode cX12_isRule 3 = .ok (.ldc2_w 146, 3) := dq_20 (dst 3 rd_prog_14_method_16_code_0 rfl) rfl
theorem dX12_isRule_6 : decode cX12_isRule 6 = .ok (.invokestatic 73, 3) := dq_184 (dst 6 rd_prog_14_method_16_code_0 rfl) rfl
theorem dX12_isRule_9 : decode cX12_isRule 9 = .ok (.ireturn, 1) := dq_172 (dst 9 rd_prog_14_method_16_code_0 rfl)
theorem lf_X12_rule_1 : ∀ w ∈ wsX12_rule_r1, w ∈ wsX12_rule := fun _ h => (List.mem_cons_of_mem _ (List.mem_append_left _ (List.mem_append_left _ h)))
theorem lf_X12_rule_2 : ∀ w ∈ wsX12_rule_r2, w ∈ wsX12_rule := fun _ h => (List.mem_cons_of_mem _ (List.mem_append_left _ (List.mem_append_right _ h)))
theorem lf_X12_rule_3 : ∀ w ∈ wsX120, w ∈ wsX12_rule := fun _ h => (List.mem_cons_of_mem _ (List.mem_append_right _ h))
set_option maxRecDepth 20000 in
theorem ggX12_rule_X12_isRule : GoodIn wsX12_rule wsX12_isRule := (gd_cons (lf_X12_rule_1 _ (List.mem_of_getElem? (i := 6) rfl)) rfl (gd_cons (lf_X12_rule_1 _ (List.mem_of_getElem? (i := 7) rfl)) rfl (gd_cons (lf_X12_rule_1 _ (List.mem_of_getElem? (i := 8) rfl)) rfl (gd_cons (lf_X12_rule_1 _ (List.mem_of_getElem? (i := 9) rfl)) rfl (gd_cons (lf_X12_rule_1 _ (List.mem_of_getElem? (i := 5) rfl)) rfl (gd_cons (lf_X12_rule_1 _ (List.mem_of_getElem? (i := 10) rfl)) rfl (gd_nil _)))))))
set_option maxRecDepth 20000 in
theorem gX12_rule_X12_isRule : GoodIn wsX12_rule (va_wsS RX12 148 yX12_isRule wsX12_isRule) := goodIn_app (gd_cons (lf_X12_rule_1 _ (List.mem_of_getElem? (i := 3) rfl)) rfl (gd_cons (lf_X12_rule_1 _ (List.mem_of_getElem? (i := 4) rfl)) rfl (gd_cons (lf_X12_rule_1 _ (List.mem_of_getElem? (i := 5) rfl)) rfl (gd_nil _)))) ggX12_rule_X12_isRule
set_option maxRecDepth 20000 in
theorem ggX12_rule_X12_readRule : GoodIn wsX12_rule wsX12_readRule := (gd_cons (lf_X12_rule_1 _ (List.mem_of_getElem? (i := 14) rfl)) rfl (goodIn_app (gd_cons (lf_X12_rule_1 _ (List.mem_of_getElem? (i := 15) rfl)) rfl (gd_cons (lf_X12_rule_1 _ (List.mem_of_getElem? (i := 16) rfl)) rfl (gd_cons (lf_X12_rule_1 _ (List.mem_of_getElem? (i := 2) rfl)) rfl (gd_cons (lf_X12_rule_1 _ (List.mem_of_getElem? (i := 17) rfl)) rfl (gd_cons (lf_X12_rule_1 _ (List.mem_of_getElem? (i := 18) rfl)) rfl (gd_cons (lf_X12_rule_1 _ (List.mem_of_getElem? (i := 1) rfl)) rfl (gd_cons (lf_X12_rule_1 _ (List.mem_of_getElem? (i := 19) rfl)) rfl (gd_cons (lf_X12_rule_1 _ (List.mem_of_getElem? (i := 20) rfl)) rfl (gd_cons (lf_X12_rule_1 _ (List.mem_of_getElem? (i := 21) rfl)) rfl (gd_cons (lf_X12_rule_1 _ (List.mem_of_getElem? (i := 5) rfl)) rfl (gd_cons (lf_X12_rule_1 _ (List.mem_of_getElem? (i := 22) rfl)) rfl (gd_cons (lf_X12_rule_1 _ (List.mem_of_getElem? (i := 23) rfl)) rfl (gd_cons (lf_X12_rule_1 _ (List.mem_of_getElem? (i := 8) rfl)) rfl (gd_cons (lf_X12_rule_1 _ (List.mem_of_getElem? (i := 9) rfl)) rfl (gd_cons (lf_X12_rule_1 _ (List.mem_of_getElem? (i := 10) rfl)) rfl (gd_cons (lf_X12_rule_2 _ (List.mem_of_getElem? (i := 0) rfl)) rfl (gd_cons (lf_X12_rule_2 _ (List.mem_of_getElem? (i := 1) rfl)) rfl (gd_cons (lf_X12_rule_2 _ (List.mem_of_getElem? (i := 2) rfl)) rfl (gd_cons (lf_X12_rule_2 _ (List.mem_of_getElem? (i := 3) rfl)) rfl (gd_nil _)))))))))))))))))))) (goodIn_sub lf_X12_rule_3 ga_wsX120)))
set_option maxRecDepth 20000 in
theorem gX12_rule_X12_readRule : GoodIn wsX12_rule (wsV RX12 133 RX12 yX12_readRule wsX12_readRule) := goodIn_app (gd_cons (lf_X12_rule_1 _ (List.mem_of_getElem? (i := 11) rfl)) rfl (gd_cons (lf_X12_rule_1 _ (List.mem_of_getElem? (i := 12) rfl)) rfl (gd_cons (lf_X12_rule_1 _ (List.mem_of_getElem? (i := 13) rfl)) rfl (gd_cons (lf_X12_rule_1 _ (List.mem_of_getElem? (i := 5) rfl)) rfl (gd_nil _))))) ggX12_rule_X12_readRule
theorem dX12_rule_0 : decode cX12_rule 0 = .ok (.iload_n 1, 1) := dq_27 (dst 0 rd_prog_14_method_17_code_0 rfl)
theorem dX12_rule_1 : decode cX12_rule 1 = .ok (.invokestatic 148, 3) := dq_184 (dst 1 rd_prog_14_method_17_code_0 rfl) rfl
theorem dX12_rule_4 : decode cX12_rule 4 = .ok (.ifCond .ne 5, 3) := dq_154 (dst 4 rd_prog_14_method_17_code_0 rfl) (by decide +kernel)
theorem dX12_rule_7 : decode cX12_rule 7 = .ok (.iconst (-1), 1) := dq_2 (dst 7 rd_prog_14_method_17_code_0 rfl)
theorem dX12_rule_8 : decode cX12_rule 8 = .ok (.ireturn, 1) := dq_172 (dst 8 rd_prog_14_method_17_code_0 rfl)
theorem dX12_rule_9 : decode cX12_rule 9 = .ok (.aload_n 0, 1) := dq_42 (dst 9 rd_prog_14_method_17_code_0 rfl)
theorem dX12_rule_10 : decode cX12_rule 10 = .ok (.invokevirtual 133, 3) := dq_182 (dst 10 rd_prog_14_method_17_code_0 rfl) rfl
theorem dX12_rule_13 : decode cX12_rule 13 = .ok (.bipush (-9), 2) := dq_16 (dst 13 rd_prog_14_method_17_code_0 rfl) (by decide +kernel)
theorem dX12_rule_15 : decode cX12_rule 15 = .ok (.if_icmp .eq 6, 3) := dq_159 (dst 15 rd_prog_14_method_17_code_0 rfl) (by decide +kernel)
theorem dX12_rule_18 : decode cX12_rule 18 = .ok (.bipush (-3), 2) := dq_16 (dst 18 rd_prog_14_method_17_code_0 rfl) (by decide +kernel)
theorem dX12_rule_20 : decode cX12_rule 20 = .ok (.ireturn, 1) := dq_172 (dst 20 rd_prog_14_method_17_code_0 rfl)
theorem dX12_rule_21 : decode cX12_rule 21 = .ok (.iconst 0, 1) := dq_3 (dst 21 rd_prog_14_method_17_code_0 rfl)
theorem dX12_rule_22 : decode cX12_rule 22 = .ok (.istore_n 2, 1) := dq_61 (dst 22 rd_prog_14_method_17_code_0 rfl)
theorem dX12_rule_23 : decode cX12_rule 23 = .ok (.iload_n 2, 1) := dq_28 (dst 23 rd_prog_14_method_17_code_0 rfl)
theorem dX12_rule_24 : decode cX12_rule 24 = .ok (.iconst 5, 1) := dq_8 (dst 24 rd_prog_14_method_17_code_0 rfl)
theorem dX12_rule_25 : decode cX12_rule 25 = .ok (.if_icmp .ge 25, 3) := dq_162 (dst 25 rd_prog_14_method_17_code_0 rfl) (by decide +kernel)
theorem dX12_rule_28 : decode cX12_rule 28 = .ok (.aload_n 0, 1) := dq_42 (dst 28 rd_prog_14_method_17_code_0 rfl)
theorem dX12_rule_29 : decode cX12_rule 29 = .ok (.getfield 19, 3) := dq_180 (dst 29 rd_prog_14_method_17_code_0 rfl) rfl
theorem dX12_rule_32 : decode cX12_rule 32 = .ok (.iconst 5, 1) := dq_8 (dst 0 rd_prog_14_method_17_code_1 rfl)
theorem dX12_rule_33 : decode cX12_rule 33 = .ok (.iload_n 1, 1) := dq_27 (dst 1 rd_prog_14_method_17_code_1 rfl)
theorem dX12_rule_34 : decode cX12_rule 34 = .ok (.imul, 1) := dq_104 (dst 2 rd_prog_14_method_17_code_1 rfl)
theorem dX12_rule_35 : decode cX12_rule 35 = .ok (.iload_n 2, 1) := dq_28 (dst 3 rd_prog_14_method_17_code_1 rfl)
theorem dX12_rule_36 : decode cX12_rule 36 = .ok (.iadd, 1) := dq_96 (dst 4 rd_prog_14_method_17_code_1 rfl)
theorem dX12_rule_37 : decode cX12_rule 37 = .ok (.aload_n 0, 1) := dq_42 (dst 5 rd_prog_14_method_17_code_1 rfl)
theorem dX12_rule_38 : decode cX12_rule 38 = .ok (.getfield 22, 3) := dq_180 (dst 6 rd_prog_14_method_17_code_1 rfl) rfl
theorem dX12_rule_41 : decode cX12_rule 41 = .ok (.iload_n 2, 1) := dq_28 (dst 9 rd_prog_14_method_17_code_1 rfl)
theorem dX12_rule_42 : decode cX12_rule 42 = .ok (.iaload, 1) := dq_46 (dst 10 rd_prog_14_method_17_code_1 rfl)
theorem dX12_rule_43 : decode cX12_rule 43 = .ok (.iastore, 1) := dq_79 (dst 11 rd_prog_14_method_17_code_1 rfl)
theorem dX12_rule_44 : decode cX12_rule 44 = .ok (.iinc 2 1, 3) := dq_132 (dst 12 rd_prog_14_method_17_code_1 rfl) rfl (by decide +kernel)
theorem dX12_rule_47 : decode cX12_rule 47 = .ok (.goto (-24), 3) := dq_167 (dst 15 rd_prog_14_method_17_code_1 rfl) (by decide +kernel)
theorem dX12_rule_50 : decode cX12_rule 50 = .ok (.aload_n 0, 1) := dq_42 (dst 18 rd_prog_14_method_17_code_1 rfl)
theorem dX12_rule_51 : decode cX12_rule 51 = .ok (.getfield 130, 3) := dq_180 (dst 19 rd_prog_14_method_17_code_1 rfl) rfl
theorem dX12_rule_54 : decode cX12_rule 54 = .ok (.ireturn, 1) := dq_172 (dst 22 rd_prog_14_method_17_code_1 rfl)
theorem lf_X12_level_1 : ∀ w ∈ ([Cond.constantLong RX12 69 (4), Cond.fieldLink RX12 19 "StillInAugustModel" "levels" "[I", Cond.methodLink RX12 148 yX12_isRule, Cond.static yX12_isRule, Cond.initialized RX12, Cond.code yX12_isRule cX12_isRule 1 (some .boolean), Cond.constantLong RX12 146 (2), Cond.methodLink RX12 73 yX12_in, Cond.static yX12_in, Cond.code yX12_in cX12_in 6 (some .boolean)] : List Cond), w ∈ wsX12_level := fun _ h => (List.mem_cons_of_mem _ (List.mem_append_left _ h))
theorem lf_X12_level_2 : ∀ w ∈ wsX120, w ∈ wsX12_level := fun _ h => (List.mem_cons_of_mem _ (List.mem_append_right _ h))
set_option maxRecDepth 20000 in
theorem ggX12_level_X12_isRule : GoodIn wsX12_level wsX12_isRule := (gd_cons (lf_X12_level_1 _ (List.mem_of_getElem? (i := 5) rfl)) rfl (gd_cons (lf_X12_level_1 _ (List.mem_of_getElem? (i := 6) rfl)) rfl (gd_cons (lf_X12_level_1 _ (List.mem_of_getElem? (i := 7) rfl)) rfl (gd_cons (lf_X12_level_1 _ (List.mem_of_getElem? (i := 8) rfl)) rfl (gd_cons (lf_X12_level_1 _ (List.mem_of_getElem? (i := 4) rfl)) rfl (gd_cons (lf_X12_level_1 _ (List.mem_of_getElem? (i := 9) rfl)) rfl (gd_nil _)))))))
set_option maxRecDepth 20000 in
theorem gX12_level_X12_isRule : GoodIn wsX12_level (va_wsS RX12 148 yX12_isRule wsX12_isRule) := goodIn_app (gd_cons (lf_X12_level_1 _ (List.mem_of_getElem? (i := 2) rfl)) rfl (gd_cons (lf_X12_level_1 _ (List.mem_of_getElem? (i := 3) rfl)) rfl (gd_cons (lf_X12_level_1 _ (List.mem_of_getElem? (i := 4) rfl)) rfl (gd_nil _)))) ggX12_level_X12_isRule
set_option maxRecDepth 20000 in
theorem ggX12_level_X12_in : GoodIn wsX12_level wsX12_in := (gd_cons (lf_X12_level_1 _ (List.mem_of_getElem? (i := 9) rfl)) rfl (gd_nil _))
set_option maxRecDepth 20000 in
theorem gX12_level_X12_in : GoodIn wsX12_level (va_wsS RX12 73 yX12_in wsX12_in) := goodIn_app (gd_cons (lf_X12_level_1 _ (List.mem_of_getElem? (i := 7) rfl)) rfl (gd_cons (lf_X12_level_1 _ (List.mem_of_getElem? (i := 8) rfl)) rfl (gd_cons (lf_X12_level_1 _ (List.mem_of_getElem? (i := 4) rfl)) rfl (gd_nil _)))) ggX12_level_X12_in
theorem dX12_level_0 : decode cX12_level 0 = .ok (.iload_n 1, 1) := dq_27 (dst 0 rd_prog_14_method_18_code_0 rfl)
theorem dX12_level_1 : decode cX12_level 1 = .ok (.invokestatic 148, 3) := dq_184 (dst 1 rd_prog_14_method_18_code_0 rfl) rfl
theorem dX12_level_4 : decode cX12_level 4 = .ok (.ifCond .eq 28, 3) := dq_153 (dst 4 rd_prog_14_method_18_code_0 rfl) (by decide +kernel)
theorem dX12_level_7 : decode cX12_level 7 = .ok (.iload_n 2, 1) := dq_28 (dst 7 rd_prog_14_method_18_code_0 rfl)
theorem dX12_level_8 : decode cX12_level 8 = .ok (.i2l, 1) := dq_133 (dst 8 rd_prog_14_method_18_code_0 rfl)
theorem dX12_level_9 : decode cX12_level 9 = .ok (.lconst 0, 1) := dq_9 (dst 9 rd_prog_14_method_18_code_0 rfl)
theorem dX12_level_10 : decode cX12_level 10 = .ok (.ldc2_w 69, 3) := dq_20 (dst 10 rd_prog_14_method_18_code_0 rfl) rfl
theorem dX12_level_13 : decode cX12_level 13 = .ok (.invokestatic 73, 3) := dq_184 (dst 13 rd_prog_14_method_18_code_0 rfl) rfl
theorem dX12_level_16 : decode cX12_level 16 = .ok (.ifCond .eq 16, 3) := dq_153 (dst 16 rd_prog_14_method_18_code_0 rfl) (by decide +kernel)
theorem dX12_level_19 : decode cX12_level 19 = .ok (.aload_n 0, 1) := dq_42 (dst 19 rd_prog_14_method_18_code_0 rfl)
theorem dX12_level_20 : decode cX12_level 20 = .ok (.getfield 19, 3) := dq_180 (dst 20 rd_prog_14_method_18_code_0 rfl) rfl
theorem dX12_level_23 : decode cX12_level 23 = .ok (.iconst 5, 1) := dq_8 (dst 23 rd_prog_14_method_18_code_0 rfl)
theorem dX12_level_24 : decode cX12_level 24 = .ok (.iload_n 1, 1) := dq_27 (dst 24 rd_prog_14_method_18_code_0 rfl)
theorem dX12_level_25 : decode cX12_level 25 = .ok (.imul, 1) := dq_104 (dst 25 rd_prog_14_method_18_code_0 rfl)
theorem dX12_level_26 : decode cX12_level 26 = .ok (.iload_n 2, 1) := dq_28 (dst 26 rd_prog_14_method_18_code_0 rfl)
theorem dX12_level_27 : decode cX12_level 27 = .ok (.iadd, 1) := dq_96 (dst 27 rd_prog_14_method_18_code_0 rfl)
theorem dX12_level_28 : decode cX12_level 28 = .ok (.iaload, 1) := dq_46 (dst 28 rd_prog_14_method_18_code_0 rfl)
theorem dX12_level_29 : decode cX12_level 29 = .ok (.goto 4, 3) := dq_167 (dst 29 rd_prog_14_method_18_code_0 rfl) (by decide +kernel)
theorem dX12_level_32 : decode cX12_level 32 = .ok (.iconst (-1), 1) := dq_2 (dst 0 rd_prog_14_method_18_code_1 rfl)
theorem dX12_level_33 : decode cX12_level 33 = .ok (.ireturn, 1) := dq_172 (dst 1 rd_prog_14_method_18_code_1 rfl)
theorem lf_X12_isWeek_1 : ∀ w ∈ ([Cond.fieldLink RX12 13 "StillInAugustModel" "house" "[I", Cond.methodLink RX12 73 yX12_in, Cond.static yX12_in, Cond.initialized RX12, Cond.code yX12_in cX12_in 6 (some .boolean)] : List Cond), w ∈ wsX12_isWeek := fun _ h => (List.mem_cons_of_mem _ (List.mem_append_left _ h))
theorem lf_X12_isWeek_2 : ∀ w ∈ wsX120, w ∈ wsX12_isWeek := fun _ h => (List.mem_cons_of_mem _ (List.mem_append_right _ h))
set_option maxRecDepth 20000 in
theorem ggX12_isWeek_X12_in : GoodIn wsX12_isWeek wsX12_in := (gd_cons (lf_X12_isWeek_1 _ (List.mem_of_getElem? (i := 4) rfl)) rfl (gd_nil _))
set_option maxRecDepth 20000 in
theorem gX12_isWeek_X12_in : GoodIn wsX12_isWeek (va_wsS RX12 73 yX12_in wsX12_in) := goodIn_app (gd_cons (lf_X12_isWeek_1 _ (List.mem_of_getElem? (i := 1) rfl)) rfl (gd_cons (lf_X12_isWeek_1 _ (List.mem_of_getElem? (i := 2) rfl)) rfl (gd_cons (lf_X12_isWeek_1 _ (List.mem_of_getElem? (i := 3) rfl)) rfl (gd_nil _)))) ggX12_isWeek_X12_in
theorem dX12_isWeek_0 : decode cX12_isWeek 0 = .ok (.iload_n 1, 1) := dq_27 (dst 0 rd_prog_14_method_19_code_0 rfl)
theorem dX12_isWeek_1 : decode cX12_isWeek 1 = .ok (.i2l, 1) := dq_133 (dst 1 rd_prog_14_method_19_code_0 rfl)
theorem dX12_isWeek_2 : decode cX12_isWeek 2 = .ok (.lconst 0, 1) := dq_9 (dst 2 rd_prog_14_method_19_code_0 rfl)
theorem dX12_isWeek_3 : decode cX12_isWeek 3 = .ok (.aload_n 0, 1) := dq_42 (dst 3 rd_prog_14_method_19_code_0 rfl)
theorem dX12_isWeek_4 : decode cX12_isWeek 4 = .ok (.getfield 13, 3) := dq_180 (dst 4 rd_prog_14_method_19_code_0 rfl) rfl
theorem dX12_isWeek_7 : decode cX12_isWeek 7 = .ok (.iconst 0, 1) := dq_3 (dst 7 rd_prog_14_method_19_code_0 rfl)
theorem dX12_isWeek_8 : decode cX12_isWeek 8 = .ok (.iaload, 1) := dq_46 (dst 8 rd_prog_14_method_19_code_0 rfl)
theorem dX12_isWeek_9 : decode cX12_isWeek 9 = .ok (.iconst 1, 1) := dq_4 (dst 9 rd_prog_14_method_19_code_0 rfl)
theorem dX12_isWeek_10 : decode cX12_isWeek 10 = .ok (.isub, 1) := dq_100 (dst 10 rd_prog_14_method_19_code_0 rfl)
theorem dX12_isWeek_11 : decode cX12_isWeek 11 = .ok (.i2l, 1) := dq_133 (dst 11 rd_prog_14_method_19_code_0 rfl)
theorem dX12_isWeek_12 : decode cX12_isWeek 12 = .ok (.invokestatic 73, 3) := dq_184 (dst 12 rd_prog_14_method_19_code_0 rfl) rfl
theorem dX12_isWeek_15 : decode cX12_isWeek 15 = .ok (.ireturn, 1) := dq_172 (dst 15 rd_prog_14_method_19_code_0 rfl)
theorem lf_X12_week_1 : ∀ w ∈ ([Cond.fieldLink RX12 13 "StillInAugustModel" "house" "[I", Cond.methodLink RX12 152 yX12_isWeek, Cond.instanceMethod yX12_isWeek, Cond.selects RX12 yX12_isWeek yX12_isWeek, Cond.initialized RX12, Cond.code yX12_isWeek cX12_isWeek 2 (some .boolean), Cond.methodLink RX12 73 yX12_in, Cond.static yX12_in, Cond.code yX12_in cX12_in 6 (some .boolean)] : List Cond), w ∈ wsX12_week := fun _ h => (List.mem_cons_of_mem _ (List.mem_append_left _ h))
theorem lf_X12_week_2 : ∀ w ∈ wsX120, w ∈ wsX12_week := fun _ h => (List.mem_cons_of_mem _ (List.mem_append_right _ h))
set_option maxRecDepth 20000 in
theorem ggX12_week_X12_isWeek : GoodIn wsX12_week wsX12_isWeek := (gd_cons (lf_X12_week_1 _ (List.mem_of_getElem? (i := 5) rfl)) rfl (goodIn_app (gd_cons (lf_X12_week_1 _ (List.mem_of_getElem? (i := 0) rfl)) rfl (gd_cons (lf_X12_week_1 _ (List.mem_of_getElem? (i := 6) rfl)) rfl (gd_cons (lf_X12_week_1 _ (List.mem_of_getElem? (i := 7) rfl)) rfl (gd_cons (lf_X12_week_1 _ (List.mem_of_getElem? (i := 4) rfl)) rfl (gd_cons (lf_X12_week_1 _ (List.mem_of_getElem? (i := 8) rfl)) rfl (gd_nil _)))))) (goodIn_sub lf_X12_week_2 ga_wsX120)))
set_option maxRecDepth 20000 in
theorem gX12_week_X12_isWeek : GoodIn wsX12_week (wsV RX12 152 RX12 yX12_isWeek wsX12_isWeek) := goodIn_app (gd_cons (lf_X12_week_1 _ (List.mem_of_getElem? (i := 1) rfl)) rfl (gd_cons (lf_X12_week_1 _ (List.mem_of_getElem? (i := 2) rfl)) rfl (gd_cons (lf_X12_week_1 _ (List.mem_of_getElem? (i := 3) rfl)) rfl (gd_cons (lf_X12_week_1 _ (List.mem_of_getElem? (i := 4) rfl)) rfl (gd_nil _))))) ggX12_week_X12_isWeek
theorem dX12_week_0 : decode cX12_week 0 = .ok (.aload_n 0, 1) := dq_42 (dst 0 rd_prog_14_method_20_code_0 rfl)
theorem dX12_week_1 : decode cX12_week 1 = .ok (.iload_n 1, 1) := dq_27 (dst 1 rd_prog_14_method_20_code_0 rfl)
theorem dX12_week_2 : decode cX12_week 2 = .ok (.invokevirtual 152, 3) := dq_182 (dst 2 rd_prog_14_method_20_code_0 rfl) rfl
theorem dX12_week_5 : decode cX12_week 5 = .ok (.ifCond .ne 5, 3) := dq_154 (dst 5 rd_prog_14_method_20_code_0 rfl) (by decide +kernel)
theorem dX12_week_8 : decode cX12_week 8 = .ok (.iconst (-1), 1) := dq_2 (dst 8 rd_prog_14_method_20_code_0 rfl)
theorem dX12_week_9 : decode cX12_week 9 = .ok (.ireturn, 1) := dq_172 (dst 9 rd_prog_14_method_20_code_0 rfl)
theorem dX12_week_10 : decode cX12_week 10 = .ok (.iload_n 2, 1) := dq_28 (dst 10 rd_prog_14_method_20_code_0 rfl)
theorem dX12_week_11 : decode cX12_week 11 = .ok (.ifCond .ne 15, 3) := dq_154 (dst 11 rd_prog_14_method_20_code_0 rfl) (by decide +kernel)
theorem dX12_week_14 : decode cX12_week 14 = .ok (.aload_n 0, 1) := dq_42 (dst 14 rd_prog_14_method_20_code_0 rfl)
theorem dX12_week_15 : decode cX12_week 15 = .ok (.getfield 13, 3) := dq_180 (dst 15 rd_prog_14_method_20_code_0 rfl) rfl
theorem dX12_week_18 : decode cX12_week 18 = .ok (.bipush 10, 2) := dq_16 (dst 18 rd_prog_14_method_20_code_0 rfl) (by decide +kernel)
theorem dX12_week_20 : decode cX12_week 20 = .ok (.iload_n 1, 1) := dq_27 (dst 20 rd_prog_14_method_20_code_0 rfl)
theorem dX12_week_21 : decode cX12_week 21 = .ok (.iadd, 1) := dq_96 (dst 21 rd_prog_14_method_20_code_0 rfl)
theorem dX12_week_22 : decode cX12_week 22 = .ok (.iaload, 1) := dq_46 (dst 22 rd_prog_14_method_20_code_0 rfl)
theorem dX12_week_23 : decode cX12_week 23 = .ok (.goto 22, 3) := dq_167 (dst 23 rd_prog_14_method_20_code_0 rfl) (by decide +kernel)
theorem dX12_week_26 : decode cX12_week 26 = .ok (.iload_n 2, 1) := dq_28 (dst 26 rd_prog_14_method_20_code_0 rfl)
theorem dX12_week_27 : decode cX12_week 27 = .ok (.iconst 1, 1) := dq_4 (dst 27 rd_prog_14_method_20_code_0 rfl)
theorem dX12_week_28 : decode cX12_week 28 = .ok (.if_icmp .ne 15, 3) := dq_160 (dst 28 rd_prog_14_method_20_code_0 rfl) (by decide +kernel)
theorem dX12_week_31 : decode cX12_week 31 = .ok (.aload_n 0, 1) := dq_42 (dst 31 rd_prog_14_method_20_code_0 rfl)
theorem dX12_week_32 : decode cX12_week 32 = .ok (.getfield 13, 3) := dq_180 (dst 0 rd_prog_14_method_20_code_1 rfl) rfl
theorem dX12_week_35 : decode cX12_week 35 = .ok (.bipush 15, 2) := dq_16 (dst 3 rd_prog_14_method_20_code_1 rfl) (by decide +kernel)
theorem dX12_week_37 : decode cX12_week 37 = .ok (.iload_n 1, 1) := dq_27 (dst 5 rd_prog_14_method_20_code_1 rfl)
theorem dX12_week_38 : decode cX12_week 38 = .ok (.iadd, 1) := dq_96 (dst 6 rd_prog_14_method_20_code_1 rfl)
theorem dX12_week_39 : decode cX12_week 39 = .ok (.iaload, 1) := dq_46 (dst 7 rd_prog_14_method_20_code_1 rfl)
theorem dX12_week_40 : decode cX12_week 40 = .ok (.goto 5, 3) := dq_167 (dst 8 rd_prog_14_method_20_code_1 rfl) (by decide +kernel)
theorem dX12_week_43 : decode cX12_week 43 = .ok (.bipush (-2), 2) := dq_16 (dst 11 rd_prog_14_method_20_code_1 rfl) (by decide +kernel)
theorem dX12_week_45 : decode cX12_week 45 = .ok (.ireturn, 1) := dq_172 (dst 13 rd_prog_14_method_20_code_1 rfl)
theorem dX12_goes_0 : decode cX12_goes 0 = .ok (.aload_n 0, 1) := dq_42 (dst 0 rd_prog_14_method_21_code_0 rfl)
theorem dX12_goes_1 : decode cX12_goes 1 = .ok (.getfield 13, 3) := dq_180 (dst 1 rd_prog_14_method_21_code_0 rfl) rfl
theorem dX12_goes_4 : decode cX12_goes 4 = .ok (.bipush 20, 2) := dq_16 (dst 4 rd_prog_14_method_21_code_0 rfl) (by decide +kernel)
theorem dX12_goes_6 : decode cX12_goes 6 = .ok (.iload_n 1, 1) := dq_27 (dst 6 rd_prog_14_method_21_code_0 rfl)
theorem dX12_goes_7 : decode cX12_goes 7 = .ok (.iadd, 1) := dq_96 (dst 7 rd_prog_14_method_21_code_0 rfl)
theorem dX12_goes_8 : decode cX12_goes 8 = .ok (.iaload, 1) := dq_46 (dst 8 rd_prog_14_method_21_code_0 rfl)
theorem dX12_goes_9 : decode cX12_goes 9 = .ok (.aload_n 0, 1) := dq_42 (dst 9 rd_prog_14_method_21_code_0 rfl)
theorem dX12_goes_10 : decode cX12_goes 10 = .ok (.getfield 13, 3) := dq_180 (dst 10 rd_prog_14_method_21_code_0 rfl) rfl
theorem dX12_goes_13 : decode cX12_goes 13 = .ok (.bipush 7, 2) := dq_16 (dst 13 rd_prog_14_method_21_code_0 rfl) (by decide +kernel)
theorem dX12_goes_15 : decode cX12_goes 15 = .ok (.iaload, 1) := dq_46 (dst 15 rd_prog_14_method_21_code_0 rfl)
theorem dX12_goes_16 : decode cX12_goes 16 = .ok (.bipush (-9), 2) := dq_16 (dst 16 rd_prog_14_method_21_code_0 rfl) (by decide +kernel)
theorem dX12_goes_18 : decode cX12_goes 18 = .ok (.if_icmp .ne 7, 3) := dq_160 (dst 18 rd_prog_14_method_21_code_0 rfl) (by decide +kernel)
theorem dX12_goes_21 : decode cX12_goes 21 = .ok (.iconst 0, 1) := dq_3 (dst 21 rd_prog_14_method_21_code_0 rfl)
theorem dX12_goes_22 : decode cX12_goes 22 = .ok (.goto 10, 3) := dq_167 (dst 22 rd_prog_14_method_21_code_0 rfl) (by decide +kernel)
theorem dX12_goes_25 : decode cX12_goes 25 = .ok (.aload_n 0, 1) := dq_42 (dst 25 rd_prog_14_method_21_code_0 rfl)
theorem dX12_goes_26 : decode cX12_goes 26 = .ok (.getfield 13, 3) := dq_180 (dst 26 rd_prog_14_method_21_code_0 rfl) rfl
theorem dX12_goes_29 : decode cX12_goes 29 = .ok (.bipush 8, 2) := dq_16 (dst 29 rd_prog_14_method_21_code_0 rfl) (by decide +kernel)
theorem dX12_goes_31 : decode cX12_goes 31 = .ok (.iaload, 1) := dq_46 (dst 31 rd_prog_14_method_21_code_0 rfl)
theorem dX12_goes_32 : decode cX12_goes 32 = .ok (.isub, 1) := dq_100 (dst 0 rd_prog_14_method_21_code_1 rfl)
theorem dX12_goes_33 : decode cX12_goes 33 = .ok (.istore_n 2, 1) := dq_61 (dst 1 rd_prog_14_method_21_code_1 rfl)
theorem dX12_goes_34 : decode cX12_goes 34 = .ok (.iload_n 2, 1) := dq_28 (dst 2 rd_prog_14_method_21_code_1 rfl)
theorem dX12_goes_35 : decode cX12_goes 35 = .ok (.ifCond .ge 7, 3) := dq_156 (dst 3 rd_prog_14_method_21_code_1 rfl) (by decide +kernel)
theorem dX12_goes_38 : decode cX12_goes 38 = .ok (.iconst 0, 1) := dq_3 (dst 6 rd_prog_14_method_21_code_1 rfl)
theorem dX12_goes_39 : decode cX12_goes 39 = .ok (.goto 4, 3) := dq_167 (dst 7 rd_prog_14_method_21_code_1 rfl) (by decide +kernel)
theorem dX12_goes_42 : decode cX12_goes 42 = .ok (.iload_n 2, 1) := dq_28 (dst 10 rd_prog_14_method_21_code_1 rfl)
theorem dX12_goes_43 : decode cX12_goes 43 = .ok (.ireturn, 1) := dq_172 (dst 11 rd_prog_14_method_21_code_1 rfl)
theorem lf_X12_aged_1 : ∀ w ∈ ([Cond.constantLong RX12 146 (2), Cond.fieldLink RX12 13 "StillInAugustModel" "house" "[I", Cond.methodLink RX12 73 yX12_in, Cond.static yX12_in, Cond.initialized RX12, Cond.code yX12_in cX12_in 6 (some .boolean), Cond.methodLink RX12 155 yX12_goes, Cond.instanceMethod yX12_goes, Cond.selects RX12 yX12_goes yX12_goes, Cond.code yX12_goes cX12_goes 3 (some .int)] : List Cond), w ∈ wsX12_aged := fun _ h => (List.mem_cons_of_mem _ (List.mem_append_left _ h))
theorem lf_X12_aged_2 : ∀ w ∈ wsX120, w ∈ wsX12_aged := fun _ h => (List.mem_cons_of_mem _ (List.mem_append_right _ h))
set_option maxRecDepth 20000 in
theorem ggX12_aged_X12_in : GoodIn wsX12_aged wsX12_in := (gd_cons (lf_X12_aged_1 _ (List.mem_of_getElem? (i := 5) rfl)) rfl (gd_nil _))
set_option maxRecDepth 20000 in
theorem gX12_aged_X12_in : GoodIn wsX12_aged (va_wsS RX12 73 yX12_in wsX12_in) := goodIn_app (gd_cons (lf_X12_aged_1 _ (List.mem_of_getElem? (i := 2) rfl)) rfl (gd_cons (lf_X12_aged_1 _ (List.mem_of_getElem? (i := 3) rfl)) rfl (gd_cons (lf_X12_aged_1 _ (List.mem_of_getElem? (i := 4) rfl)) rfl (gd_nil _)))) ggX12_aged_X12_in
set_option maxRecDepth 20000 in
theorem ggX12_aged_X12_goes : GoodIn wsX12_aged wsX12_goes := (gd_cons (lf_X12_aged_1 _ (List.mem_of_getElem? (i := 9) rfl)) rfl (goodIn_app (gd_cons (lf_X12_aged_1 _ (List.mem_of_getElem? (i := 1) rfl)) rfl (gd_nil _)) (goodIn_sub lf_X12_aged_2 ga_wsX120)))
set_option maxRecDepth 20000 in
theorem gX12_aged_X12_goes : GoodIn wsX12_aged (wsV RX12 155 RX12 yX12_goes wsX12_goes) := goodIn_app (gd_cons (lf_X12_aged_1 _ (List.mem_of_getElem? (i := 6) rfl)) rfl (gd_cons (lf_X12_aged_1 _ (List.mem_of_getElem? (i := 7) rfl)) rfl (gd_cons (lf_X12_aged_1 _ (List.mem_of_getElem? (i := 8) rfl)) rfl (gd_cons (lf_X12_aged_1 _ (List.mem_of_getElem? (i := 4) rfl)) rfl (gd_nil _))))) ggX12_aged_X12_goes
theorem dX12_aged_0 : decode cX12_aged 0 = .ok (.iload_n 1, 1) := dq_27 (dst 0 rd_prog_14_method_22_code_0 rfl)
theorem dX12_aged_1 : decode cX12_aged 1 = .ok (.i2l, 1) := dq_133 (dst 1 rd_prog_14_method_22_code_0 rfl)
theorem dX12_aged_2 : decode cX12_aged 2 = .ok (.lconst 0, 1) := dq_9 (dst 2 rd_prog_14_method_22_code_0 rfl)
theorem dX12_aged_3 : decode cX12_aged 3 = .ok (.ldc2_w 146, 3) := dq_20 (dst 3 rd_prog_14_method_22_code_0 rfl) rfl
theorem dX12_aged_6 : decode cX12_aged 6 = .ok (.invokestatic 73, 3) := dq_184 (dst 6 rd_prog_14_method_22_code_0 rfl) rfl
theorem dX12_aged_9 : decode cX12_aged 9 = .ok (.ifCond .ne 6, 3) := dq_154 (dst 9 rd_prog_14_method_22_code_0 rfl) (by decide +kernel)
theorem dX12_aged_12 : decode cX12_aged 12 = .ok (.bipush (-2), 2) := dq_16 (dst 12 rd_prog_14_method_22_code_0 rfl) (by decide +kernel)
theorem dX12_aged_14 : decode cX12_aged 14 = .ok (.ireturn, 1) := dq_172 (dst 14 rd_prog_14_method_22_code_0 rfl)
theorem dX12_aged_15 : decode cX12_aged 15 = .ok (.iload_n 2, 1) := dq_28 (dst 15 rd_prog_14_method_22_code_0 rfl)
theorem dX12_aged_16 : decode cX12_aged 16 = .ok (.ifCond .ne 11, 3) := dq_154 (dst 16 rd_prog_14_method_22_code_0 rfl) (by decide +kernel)
theorem dX12_aged_19 : decode cX12_aged 19 = .ok (.aload_n 0, 1) := dq_42 (dst 19 rd_prog_14_method_22_code_0 rfl)
theorem dX12_aged_20 : decode cX12_aged 20 = .ok (.iload_n 1, 1) := dq_27 (dst 20 rd_prog_14_method_22_code_0 rfl)
theorem dX12_aged_21 : decode cX12_aged 21 = .ok (.invokevirtual 155, 3) := dq_182 (dst 21 rd_prog_14_method_22_code_0 rfl) rfl
theorem dX12_aged_24 : decode cX12_aged 24 = .ok (.goto 22, 3) := dq_167 (dst 24 rd_prog_14_method_22_code_0 rfl) (by decide +kernel)
theorem dX12_aged_27 : decode cX12_aged 27 = .ok (.iload_n 2, 1) := dq_28 (dst 27 rd_prog_14_method_22_code_0 rfl)
theorem dX12_aged_28 : decode cX12_aged 28 = .ok (.iconst 1, 1) := dq_4 (dst 28 rd_prog_14_method_22_code_0 rfl)
theorem dX12_aged_29 : decode cX12_aged 29 = .ok (.if_icmp .ne 15, 3) := dq_160 (dst 29 rd_prog_14_method_22_code_0 rfl) (by decide +kernel)
theorem dX12_aged_32 : decode cX12_aged 32 = .ok (.aload_n 0, 1) := dq_42 (dst 0 rd_prog_14_method_22_code_1 rfl)
theorem dX12_aged_33 : decode cX12_aged 33 = .ok (.getfield 13, 3) := dq_180 (dst 1 rd_prog_14_method_22_code_1 rfl) rfl
theorem dX12_aged_36 : decode cX12_aged 36 = .ok (.bipush 23, 2) := dq_16 (dst 4 rd_prog_14_method_22_code_1 rfl) (by decide +kernel)
theorem dX12_aged_38 : decode cX12_aged 38 = .ok (.iload_n 1, 1) := dq_27 (dst 6 rd_prog_14_method_22_code_1 rfl)
theorem dX12_aged_39 : decode cX12_aged 39 = .ok (.iadd, 1) := dq_96 (dst 7 rd_prog_14_method_22_code_1 rfl)
theorem dX12_aged_40 : decode cX12_aged 40 = .ok (.iaload, 1) := dq_46 (dst 8 rd_prog_14_method_22_code_1 rfl)
theorem dX12_aged_41 : decode cX12_aged 41 = .ok (.goto 5, 3) := dq_167 (dst 9 rd_prog_14_method_22_code_1 rfl) (by decide +kernel)
theorem dX12_aged_44 : decode cX12_aged 44 = .ok (.bipush (-2), 2) := dq_16 (dst 12 rd_prog_14_method_22_code_1 rfl) (by decide +kernel)
theorem dX12_aged_46 : decode cX12_aged 46 = .ok (.ireturn, 1) := dq_172 (dst 14 rd_prog_14_method_22_code_1 rfl)
theorem lf_X12_about_1 : ∀ w ∈ ([Cond.constantLong RX12 71 (7), Cond.fieldLink RX12 13 "StillInAugustModel" "house" "[I", Cond.methodLink RX12 73 yX12_in, Cond.static yX12_in, Cond.initialized RX12, Cond.code yX12_in cX12_in 6 (some .boolean)] : List Cond), w ∈ wsX12_about := fun _ h => (List.mem_cons_of_mem _ (List.mem_append_left _ h))
theorem lf_X12_about_2 : ∀ w ∈ wsX120, w ∈ wsX12_about := fun _ h => (List.mem_cons_of_mem _ (List.mem_append_right _ h))
set_option maxRecDepth 20000 in
theorem ggX12_about_X12_in : GoodIn wsX12_about wsX12_in := (gd_cons (lf_X12_about_1 _ (List.mem_of_getElem? (i := 5) rfl)) rfl (gd_nil _))
set_option maxRecDepth 20000 in
theorem gX12_about_X12_in : GoodIn wsX12_about (va_wsS RX12 73 yX12_in wsX12_in) := goodIn_app (gd_cons (lf_X12_about_1 _ (List.mem_of_getElem? (i := 2) rfl)) rfl (gd_cons (lf_X12_about_1 _ (List.mem_of_getElem? (i := 3) rfl)) rfl (gd_cons (lf_X12_about_1 _ (List.mem_of_getElem? (i := 4) rfl)) rfl (gd_nil _)))) ggX12_about_X12_in
theorem dX12_about_0 : decode cX12_about 0 = .ok (.iload_n 1, 1) := dq_27 (dst 0 rd_prog_14_method_23_code_0 rfl)
theorem dX12_about_1 : decode cX12_about 1 = .ok (.i2l, 1) := dq_133 (dst 1 rd_prog_14_method_23_code_0 rfl)
theorem dX12_about_2 : decode cX12_about 2 = .ok (.lconst 0, 1) := dq_9 (dst 2 rd_prog_14_method_23_code_0 rfl)
theorem dX12_about_3 : decode cX12_about 3 = .ok (.ldc2_w 71, 3) := dq_20 (dst 3 rd_prog_14_method_23_code_0 rfl) rfl
theorem dX12_about_6 : decode cX12_about 6 = .ok (.invokestatic 73, 3) := dq_184 (dst 6 rd_prog_14_method_23_code_0 rfl) rfl
theorem dX12_about_9 : decode cX12_about 9 = .ok (.ifCond .eq 12, 3) := dq_153 (dst 9 rd_prog_14_method_23_code_0 rfl) (by decide +kernel)
theorem dX12_about_12 : decode cX12_about 12 = .ok (.aload_n 0, 1) := dq_42 (dst 12 rd_prog_14_method_23_code_0 rfl)
theorem dX12_about_13 : decode cX12_about 13 = .ok (.getfield 13, 3) := dq_180 (dst 13 rd_prog_14_method_23_code_0 rfl) rfl
theorem dX12_about_16 : decode cX12_about 16 = .ok (.iload_n 1, 1) := dq_27 (dst 16 rd_prog_14_method_23_code_0 rfl)
theorem dX12_about_17 : decode cX12_about 17 = .ok (.iaload, 1) := dq_46 (dst 17 rd_prog_14_method_23_code_0 rfl)
theorem dX12_about_18 : decode cX12_about 18 = .ok (.goto 5, 3) := dq_167 (dst 18 rd_prog_14_method_23_code_0 rfl) (by decide +kernel)
theorem dX12_about_21 : decode cX12_about 21 = .ok (.bipush (-2), 2) := dq_16 (dst 21 rd_prog_14_method_23_code_0 rfl) (by decide +kernel)
theorem dX12_about_23 : decode cX12_about 23 = .ok (.ireturn, 1) := dq_172 (dst 23 rd_prog_14_method_23_code_0 rfl)
theorem lf_X12_isComing_1 : ∀ w ∈ ([Cond.fieldLink RX12 13 "StillInAugustModel" "house" "[I", Cond.constantLong RX12 146 (2), Cond.methodLink RX12 73 yX12_in, Cond.static yX12_in, Cond.initialized RX12, Cond.code yX12_in cX12_in 6 (some .boolean)] : List Cond), w ∈ wsX12_isComing := fun _ h => (List.mem_cons_of_mem _ (List.mem_append_left _ h))
theorem lf_X12_isComing_2 : ∀ w ∈ wsX120, w ∈ wsX12_isComing := fun _ h => (List.mem_cons_of_mem _ (List.mem_append_right _ h))
set_option maxRecDepth 20000 in
theorem ggX12_isComing_X12_in : GoodIn wsX12_isComing wsX12_in := (gd_cons (lf_X12_isComing_1 _ (List.mem_of_getElem? (i := 5) rfl)) rfl (gd_nil _))
set_option maxRecDepth 20000 in
theorem gX12_isComing_X12_in : GoodIn wsX12_isComing (va_wsS RX12 73 yX12_in wsX12_in) := goodIn_app (gd_cons (lf_X12_isComing_1 _ (List.mem_of_getElem? (i := 2) rfl)) rfl (gd_cons (lf_X12_isComing_1 _ (List.mem_of_getElem? (i := 3) rfl)) rfl (gd_cons (lf_X12_isComing_1 _ (List.mem_of_getElem? (i := 4) rfl)) rfl (gd_nil _)))) ggX12_isComing_X12_in
theorem dX12_isComing_0 : decode cX12_isComing 0 = .ok (.iload_n 1, 1) := dq_27 (dst 0 rd_prog_14_method_24_code_0 rfl)
theorem dX12_isComing_1 : decode cX12_isComing 1 = .ok (.i2l, 1) := dq_133 (dst 1 rd_prog_14_method_24_code_0 rfl)
theorem dX12_isComing_2 : decode cX12_isComing 2 = .ok (.lconst 0, 1) := dq_9 (dst 2 rd_prog_14_method_24_code_0 rfl)
theorem dX12_isComing_3 : decode cX12_isComing 3 = .ok (.aload_n 0, 1) := dq_42 (dst 3 rd_prog_14_method_24_code_0 rfl)
theorem dX12_isComing_4 : decode cX12_isComing 4 = .ok (.getfield 13, 3) := dq_180 (dst 4 rd_prog_14_method_24_code_0 rfl) rfl
theorem dX12_isComing_7 : decode cX12_isComing 7 = .ok (.bipush 6, 2) := dq_16 (dst 7 rd_prog_14_method_24_code_0 rfl) (by decide +kernel)
theorem dX12_isComing_9 : decode cX12_isComing 9 = .ok (.iaload, 1) := dq_46 (dst 9 rd_prog_14_method_24_code_0 rfl)
theorem dX12_isComing_10 : decode cX12_isComing 10 = .ok (.bipush (-9), 2) := dq_16 (dst 10 rd_prog_14_method_24_code_0 rfl) (by decide +kernel)
theorem dX12_isComing_12 : decode cX12_isComing 12 = .ok (.if_icmp .ne 7, 3) := dq_160 (dst 12 rd_prog_14_method_24_code_0 rfl) (by decide +kernel)
theorem dX12_isComing_15 : decode cX12_isComing 15 = .ok (.lconst 0, 1) := dq_9 (dst 15 rd_prog_14_method_24_code_0 rfl)
theorem dX12_isComing_16 : decode cX12_isComing 16 = .ok (.goto 6, 3) := dq_167 (dst 16 rd_prog_14_method_24_code_0 rfl) (by decide +kernel)
theorem dX12_isComing_19 : decode cX12_isComing 19 = .ok (.ldc2_w 146, 3) := dq_20 (dst 19 rd_prog_14_method_24_code_0 rfl) rfl
theorem dX12_isComing_22 : decode cX12_isComing 22 = .ok (.invokestatic 73, 3) := dq_184 (dst 22 rd_prog_14_method_24_code_0 rfl) rfl
theorem dX12_isComing_25 : decode cX12_isComing 25 = .ok (.ireturn, 1) := dq_172 (dst 25 rd_prog_14_method_24_code_0 rfl)
theorem dX12_all_0 : decode cX12_all 0 = .ok (.iload_n 0, 1) := dq_26 (dst 0 rd_prog_14_method_25_code_0 rfl)
theorem dX12_all_1 : decode cX12_all 1 = .ok (.bipush 100, 2) := dq_16 (dst 1 rd_prog_14_method_25_code_0 rfl) (by decide +kernel)
theorem dX12_all_3 : decode cX12_all 3 = .ok (.idiv, 1) := dq_108 (dst 3 rd_prog_14_method_25_code_0 rfl)
theorem dX12_all_4 : decode cX12_all 4 = .ok (.iload_n 0, 1) := dq_26 (dst 4 rd_prog_14_method_25_code_0 rfl)
theorem dX12_all_5 : decode cX12_all 5 = .ok (.bipush 10, 2) := dq_16 (dst 5 rd_prog_14_method_25_code_0 rfl) (by decide +kernel)
theorem dX12_all_7 : decode cX12_all 7 = .ok (.idiv, 1) := dq_108 (dst 7 rd_prog_14_method_25_code_0 rfl)
theorem dX12_all_8 : decode cX12_all 8 = .ok (.bipush 10, 2) := dq_16 (dst 8 rd_prog_14_method_25_code_0 rfl) (by decide +kernel)
theorem dX12_all_10 : decode cX12_all 10 = .ok (.irem, 1) := dq_112 (dst 10 rd_prog_14_method_25_code_0 rfl)
theorem dX12_all_11 : decode cX12_all 11 = .ok (.iadd, 1) := dq_96 (dst 11 rd_prog_14_method_25_code_0 rfl)
theorem dX12_all_12 : decode cX12_all 12 = .ok (.iload_n 0, 1) := dq_26 (dst 12 rd_prog_14_method_25_code_0 rfl)
theorem dX12_all_13 : decode cX12_all 13 = .ok (.bipush 10, 2) := dq_16 (dst 13 rd_prog_14_method_25_code_0 rfl) (by decide +kernel)
theorem dX12_all_15 : decode cX12_all 15 = .ok (.irem, 1) := dq_112 (dst 15 rd_prog_14_method_25_code_0 rfl)
theorem dX12_all_16 : decode cX12_all 16 = .ok (.iadd, 1) := dq_96 (dst 16 rd_prog_14_method_25_code_0 rfl)
theorem dX12_all_17 : decode cX12_all 17 = .ok (.ireturn, 1) := dq_172 (dst 17 rd_prog_14_method_25_code_0 rfl)
theorem lf_X12_isHands_1 : ∀ w ∈ ([Cond.constantLong RX12 158 (999), Cond.fieldLink RX12 13 "StillInAugustModel" "house" "[I", Cond.methodLink RX12 73 yX12_in, Cond.static yX12_in, Cond.initialized RX12, Cond.code yX12_in cX12_in 6 (some .boolean), Cond.methodLink RX12 160 yX12_all, Cond.static yX12_all, Cond.code yX12_all cX12_all 1 (some .int)] : List Cond), w ∈ wsX12_isHands := fun _ h => (List.mem_cons_of_mem _ (List.mem_append_left _ h))
theorem lf_X12_isHands_2 : ∀ w ∈ wsX120, w ∈ wsX12_isHands := fun _ h => (List.mem_cons_of_mem _ (List.mem_append_right _ h))
set_option maxRecDepth 20000 in
theorem ggX12_isHands_X12_in : GoodIn wsX12_isHands wsX12_in := (gd_cons (lf_X12_isHands_1 _ (List.mem_of_getElem? (i := 5) rfl)) rfl (gd_nil _))
set_option maxRecDepth 20000 in
theorem gX12_isHands_X12_in : GoodIn wsX12_isHands (va_wsS RX12 73 yX12_in wsX12_in) := goodIn_app (gd_cons (lf_X12_isHands_1 _ (List.mem_of_getElem? (i := 2) rfl)) rfl (gd_cons (lf_X12_isHands_1 _ (List.mem_of_getElem? (i := 3) rfl)) rfl (gd_cons (lf_X12_isHands_1 _ (List.mem_of_getElem? (i := 4) rfl)) rfl (gd_nil _)))) ggX12_isHands_X12_in
set_option maxRecDepth 20000 in
theorem ggX12_isHands_X12_all : GoodIn wsX12_isHands wsX12_all := (gd_cons (lf_X12_isHands_1 _ (List.mem_of_getElem? (i := 8) rfl)) rfl (gd_nil _))
set_option maxRecDepth 20000 in
theorem gX12_isHands_X12_all : GoodIn wsX12_isHands (va_wsS RX12 160 yX12_all wsX12_all) := goodIn_app (gd_cons (lf_X12_isHands_1 _ (List.mem_of_getElem? (i := 6) rfl)) rfl (gd_cons (lf_X12_isHands_1 _ (List.mem_of_getElem? (i := 7) rfl)) rfl (gd_cons (lf_X12_isHands_1 _ (List.mem_of_getElem? (i := 4) rfl)) rfl (gd_nil _)))) ggX12_isHands_X12_all
theorem dX12_isHands_0 : decode cX12_isHands 0 = .ok (.iload_n 1, 1) := dq_27 (dst 0 rd_prog_14_method_26_code_0 rfl)
theorem dX12_isHands_1 : decode cX12_isHands 1 = .ok (.i2l, 1) := dq_133 (dst 1 rd_prog_14_method_26_code_0 rfl)
theorem dX12_isHands_2 : decode cX12_isHands 2 = .ok (.lconst 0, 1) := dq_9 (dst 2 rd_prog_14_method_26_code_0 rfl)
theorem dX12_isHands_3 : decode cX12_isHands 3 = .ok (.ldc2_w 158, 3) := dq_20 (dst 3 rd_prog_14_method_26_code_0 rfl) rfl
theorem dX12_isHands_6 : decode cX12_isHands 6 = .ok (.invokestatic 73, 3) := dq_184 (dst 6 rd_prog_14_method_26_code_0 rfl) rfl
theorem dX12_isHands_9 : decode cX12_isHands 9 = .ok (.ifCond .eq 20, 3) := dq_153 (dst 9 rd_prog_14_method_26_code_0 rfl) (by decide +kernel)
theorem dX12_isHands_12 : decode cX12_isHands 12 = .ok (.iload_n 1, 1) := dq_27 (dst 12 rd_prog_14_method_26_code_0 rfl)
theorem dX12_isHands_13 : decode cX12_isHands 13 = .ok (.invokestatic 160, 3) := dq_184 (dst 13 rd_prog_14_method_26_code_0 rfl) rfl
theorem dX12_isHands_16 : decode cX12_isHands 16 = .ok (.aload_n 0, 1) := dq_42 (dst 16 rd_prog_14_method_26_code_0 rfl)
theorem dX12_isHands_17 : decode cX12_isHands 17 = .ok (.getfield 13, 3) := dq_180 (dst 17 rd_prog_14_method_26_code_0 rfl) rfl
theorem dX12_isHands_20 : decode cX12_isHands 20 = .ok (.iconst 1, 1) := dq_4 (dst 20 rd_prog_14_method_26_code_0 rfl)
theorem dX12_isHands_21 : decode cX12_isHands 21 = .ok (.iaload, 1) := dq_46 (dst 21 rd_prog_14_method_26_code_0 rfl)
theorem dX12_isHands_22 : decode cX12_isHands 22 = .ok (.if_icmp .gt 7, 3) := dq_163 (dst 22 rd_prog_14_method_26_code_0 rfl) (by decide +kernel)
theorem dX12_isHands_25 : decode cX12_isHands 25 = .ok (.iconst 1, 1) := dq_4 (dst 25 rd_prog_14_method_26_code_0 rfl)
theorem dX12_isHands_26 : decode cX12_isHands 26 = .ok (.goto 4, 3) := dq_167 (dst 26 rd_prog_14_method_26_code_0 rfl) (by decide +kernel)
theorem dX12_isHands_29 : decode cX12_isHands 29 = .ok (.iconst 0, 1) := dq_3 (dst 29 rd_prog_14_method_26_code_0 rfl)
theorem dX12_isHands_30 : decode cX12_isHands 30 = .ok (.ireturn, 1) := dq_172 (dst 30 rd_prog_14_method_26_code_0 rfl)
theorem dX12_fewer_0 : decode cX12_fewer 0 = .ok (.iload_n 1, 1) := dq_27 (dst 0 rd_prog_14_method_27_code_0 rfl)
theorem dX12_fewer_1 : decode cX12_fewer 1 = .ok (.istore_n 2, 1) := dq_61 (dst 1 rd_prog_14_method_27_code_0 rfl)
theorem dX12_fewer_2 : decode cX12_fewer 2 = .ok (.iload_n 0, 1) := dq_26 (dst 2 rd_prog_14_method_27_code_0 rfl)
theorem dX12_fewer_3 : decode cX12_fewer 3 = .ok (.bipush 100, 2) := dq_16 (dst 3 rd_prog_14_method_27_code_0 rfl) (by decide +kernel)
theorem dX12_fewer_5 : decode cX12_fewer 5 = .ok (.idiv, 1) := dq_108 (dst 5 rd_prog_14_method_27_code_0 rfl)
theorem dX12_fewer_6 : decode cX12_fewer 6 = .ok (.istore_n 3, 1) := dq_62 (dst 6 rd_prog_14_method_27_code_0 rfl)
theorem dX12_fewer_7 : decode cX12_fewer 7 = .ok (.iload_n 0, 1) := dq_26 (dst 7 rd_prog_14_method_27_code_0 rfl)
theorem dX12_fewer_8 : decode cX12_fewer 8 = .ok (.bipush 10, 2) := dq_16 (dst 8 rd_prog_14_method_27_code_0 rfl) (by decide +kernel)
theorem dX12_fewer_10 : decode cX12_fewer 10 = .ok (.idiv, 1) := dq_108 (dst 10 rd_prog_14_method_27_code_0 rfl)
theorem dX12_fewer_11 : decode cX12_fewer 11 = .ok (.bipush 10, 2) := dq_16 (dst 11 rd_prog_14_method_27_code_0 rfl) (by decide +kernel)
theorem dX12_fewer_13 : decode cX12_fewer 13 = .ok (.irem, 1) := dq_112 (dst 13 rd_prog_14_method_27_code_0 rfl)
theorem dX12_fewer_14 : decode cX12_fewer 14 = .ok (.istore 4, 2) := dq_54 (dst 14 rd_prog_14_method_27_code_0 rfl) rfl
theorem dX12_fewer_16 : decode cX12_fewer 16 = .ok (.iload_n 0, 1) := dq_26 (dst 16 rd_prog_14_method_27_code_0 rfl)
theorem dX12_fewer_17 : decode cX12_fewer 17 = .ok (.bipush 10, 2) := dq_16 (dst 17 rd_prog_14_method_27_code_0 rfl) (by decide +kernel)
theorem dX12_fewer_19 : decode cX12_fewer 19 = .ok (.irem, 1) := dq_112 (dst 19 rd_prog_14_method_27_code_0 rfl)
theorem dX12_fewer_20 : decode cX12_fewer 20 = .ok (.istore 5, 2) := dq_54 (dst 20 rd_prog_14_method_27_code_0 rfl) rfl
theorem dX12_fewer_22 : decode cX12_fewer 22 = .ok (.iload_n 2, 1) := dq_28 (dst 22 rd_prog_14_method_27_code_0 rfl)
theorem dX12_fewer_23 : decode cX12_fewer 23 = .ok (.iload_n 3, 1) := dq_29 (dst 23 rd_prog_14_method_27_code_0 rfl)
theorem dX12_fewer_24 : decode cX12_fewer 24 = .ok (.if_icmp .ge 7, 3) := dq_162 (dst 24 rd_prog_14_method_27_code_0 rfl) (by decide +kernel)
theorem dX12_fewer_27 : decode cX12_fewer 27 = .ok (.iload_n 2, 1) := dq_28 (dst 27 rd_prog_14_method_27_code_0 rfl)
theorem dX12_fewer_28 : decode cX12_fewer 28 = .ok (.goto 4, 3) := dq_167 (dst 28 rd_prog_14_method_27_code_0 rfl) (by decide +kernel)
theorem dX12_fewer_31 : decode cX12_fewer 31 = .ok (.iload_n 3, 1) := dq_29 (dst 31 rd_prog_14_method_27_code_0 rfl)
theorem dX12_fewer_32 : decode cX12_fewer 32 = .ok (.istore 6, 2) := dq_54 (dst 0 rd_prog_14_method_27_code_1 rfl) rfl
theorem dX12_fewer_34 : decode cX12_fewer 34 = .ok (.iload_n 3, 1) := dq_29 (dst 2 rd_prog_14_method_27_code_1 rfl)
theorem dX12_fewer_35 : decode cX12_fewer 35 = .ok (.iload 6, 2) := dq_21 (dst 3 rd_prog_14_method_27_code_1 rfl) rfl
theorem dX12_fewer_37 : decode cX12_fewer 37 = .ok (.isub, 1) := dq_100 (dst 5 rd_prog_14_method_27_code_1 rfl)
theorem dX12_fewer_38 : decode cX12_fewer 38 = .ok (.istore_n 3, 1) := dq_62 (dst 6 rd_prog_14_method_27_code_1 rfl)
theorem dX12_fewer_39 : decode cX12_fewer 39 = .ok (.iload_n 2, 1) := dq_28 (dst 7 rd_prog_14_method_27_code_1 rfl)
theorem dX12_fewer_40 : decode cX12_fewer 40 = .ok (.iload 6, 2) := dq_21 (dst 8 rd_prog_14_method_27_code_1 rfl) rfl
theorem dX12_fewer_42 : decode cX12_fewer 42 = .ok (.isub, 1) := dq_100 (dst 10 rd_prog_14_method_27_code_1 rfl)
theorem dX12_fewer_43 : decode cX12_fewer 43 = .ok (.istore_n 2, 1) := dq_61 (dst 11 rd_prog_14_method_27_code_1 rfl)
theorem dX12_fewer_44 : decode cX12_fewer 44 = .ok (.iload_n 2, 1) := dq_28 (dst 12 rd_prog_14_method_27_code_1 rfl)
theorem dX12_fewer_45 : decode cX12_fewer 45 = .ok (.iload 4, 2) := dq_21 (dst 13 rd_prog_14_method_27_code_1 rfl) rfl
theorem dX12_fewer_47 : decode cX12_fewer 47 = .ok (.if_icmp .ge 7, 3) := dq_162 (dst 15 rd_prog_14_method_27_code_1 rfl) (by decide +kernel)
theorem dX12_fewer_50 : decode cX12_fewer 50 = .ok (.iload_n 2, 1) := dq_28 (dst 18 rd_prog_14_method_27_code_1 rfl)
theorem dX12_fewer_51 : decode cX12_fewer 51 = .ok (.goto 5, 3) := dq_167 (dst 19 rd_prog_14_method_27_code_1 rfl) (by decide +kernel)
theorem dX12_fewer_54 : decode cX12_fewer 54 = .ok (.iload 4, 2) := dq_21 (dst 22 rd_prog_14_method_27_code_1 rfl) rfl
theorem dX12_fewer_56 : decode cX12_fewer 56 = .ok (.istore 6, 2) := dq_54 (dst 24 rd_prog_14_method_27_code_1 rfl) rfl
theorem dX12_fewer_58 : decode cX12_fewer 58 = .ok (.iload 4, 2) := dq_21 (dst 26 rd_prog_14_method_27_code_1 rfl) rfl
theorem dX12_fewer_60 : decode cX12_fewer 60 = .ok (.iload 6, 2) := dq_21 (dst 28 rd_prog_14_method_27_code_1 rfl) rfl
theorem dX12_fewer_62 : decode cX12_fewer 62 = .ok (.isub, 1) := dq_100 (dst 30 rd_prog_14_method_27_code_1 rfl)
theorem dX12_fewer_63 : decode cX12_fewer 63 = .ok (.istore 4, 2) := dq_54 (dst 31 rd_prog_14_method_27_code_1 rfl) rfl
theorem dX12_fewer_65 : decode cX12_fewer 65 = .ok (.iload_n 2, 1) := dq_28 (dst 1 rd_prog_14_method_27_code_2 rfl)
theorem dX12_fewer_66 : decode cX12_fewer 66 = .ok (.iload 6, 2) := dq_21 (dst 2 rd_prog_14_method_27_code_2 rfl) rfl
theorem dX12_fewer_68 : decode cX12_fewer 68 = .ok (.isub, 1) := dq_100 (dst 4 rd_prog_14_method_27_code_2 rfl)
theorem dX12_fewer_69 : decode cX12_fewer 69 = .ok (.istore_n 2, 1) := dq_61 (dst 5 rd_prog_14_method_27_code_2 rfl)
theorem dX12_fewer_70 : decode cX12_fewer 70 = .ok (.bipush 100, 2) := dq_16 (dst 6 rd_prog_14_method_27_code_2 rfl) (by decide +kernel)
theorem dX12_fewer_72 : decode cX12_fewer 72 = .ok (.iload_n 3, 1) := dq_29 (dst 8 rd_prog_14_method_27_code_2 rfl)
theorem dX12_fewer_73 : decode cX12_fewer 73 = .ok (.imul, 1) := dq_104 (dst 9 rd_prog_14_method_27_code_2 rfl)
theorem dX12_fewer_74 : decode cX12_fewer 74 = .ok (.bipush 10, 2) := dq_16 (dst 10 rd_prog_14_method_27_code_2 rfl) (by decide +kernel)
theorem dX12_fewer_76 : decode cX12_fewer 76 = .ok (.iload 4, 2) := dq_21 (dst 12 rd_prog_14_method_27_code_2 rfl) rfl
theorem dX12_fewer_78 : decode cX12_fewer 78 = .ok (.imul, 1) := dq_104 (dst 14 rd_prog_14_method_27_code_2 rfl)
theorem dX12_fewer_79 : decode cX12_fewer 79 = .ok (.iadd, 1) := dq_96 (dst 15 rd_prog_14_method_27_code_2 rfl)
theorem dX12_fewer_80 : decode cX12_fewer 80 = .ok (.iload 5, 2) := dq_21 (dst 16 rd_prog_14_method_27_code_2 rfl) rfl
theorem dX12_fewer_82 : decode cX12_fewer 82 = .ok (.iadd, 1) := dq_96 (dst 18 rd_prog_14_method_27_code_2 rfl)
theorem dX12_fewer_83 : decode cX12_fewer 83 = .ok (.iload_n 2, 1) := dq_28 (dst 19 rd_prog_14_method_27_code_2 rfl)
theorem dX12_fewer_84 : decode cX12_fewer 84 = .ok (.isub, 1) := dq_100 (dst 20 rd_prog_14_method_27_code_2 rfl)
theorem dX12_fewer_85 : decode cX12_fewer 85 = .ok (.ireturn, 1) := dq_172 (dst 21 rd_prog_14_method_27_code_2 rfl)
theorem lf_X12_after_1 : ∀ w ∈ ([Cond.fieldLink RX12 13 "StillInAugustModel" "house" "[I", Cond.methodLink RX12 160 yX12_all, Cond.static yX12_all, Cond.initialized RX12, Cond.code yX12_all cX12_all 1 (some .int), Cond.methodLink RX12 163 yX12_fewer, Cond.static yX12_fewer, Cond.code yX12_fewer cX12_fewer 7 (some .int)] : List Cond), w ∈ wsX12_after := fun _ h => (List.mem_cons_of_mem _ (List.mem_append_left _ h))
theorem lf_X12_after_2 : ∀ w ∈ wsX120, w ∈ wsX12_after := fun _ h => (List.mem_cons_of_mem _ (List.mem_append_right _ h))
set_option maxRecDepth 20000 in
theorem ggX12_after_X12_all : GoodIn wsX12_after wsX12_all := (gd_cons (lf_X12_after_1 _ (List.mem_of_getElem? (i := 4) rfl)) rfl (gd_nil _))
set_option maxRecDepth 20000 in
theorem gX12_after_X12_all : GoodIn wsX12_after (va_wsS RX12 160 yX12_all wsX12_all) := goodIn_app (gd_cons (lf_X12_after_1 _ (List.mem_of_getElem? (i := 1) rfl)) rfl (gd_cons (lf_X12_after_1 _ (List.mem_of_getElem? (i := 2) rfl)) rfl (gd_cons (lf_X12_after_1 _ (List.mem_of_getElem? (i := 3) rfl)) rfl (gd_nil _)))) ggX12_after_X12_all
set_option maxRecDepth 20000 in
theorem ggX12_after_X12_fewer : GoodIn wsX12_after wsX12_fewer := (gd_cons (lf_X12_after_1 _ (List.mem_of_getElem? (i := 7) rfl)) rfl (gd_nil _))
set_option maxRecDepth 20000 in
theorem gX12_after_X12_fewer : GoodIn wsX12_after (va_wsS RX12 163 yX12_fewer wsX12_fewer) := goodIn_app (gd_cons (lf_X12_after_1 _ (List.mem_of_getElem? (i := 5) rfl)) rfl (gd_cons (lf_X12_after_1 _ (List.mem_of_getElem? (i := 6) rfl)) rfl (gd_cons (lf_X12_after_1 _ (List.mem_of_getElem? (i := 3) rfl)) rfl (gd_nil _)))) ggX12_after_X12_fewer
theorem dX12_after_0 : decode cX12_after 0 = .ok (.iload_n 3, 1) := dq_29 (dst 0 rd_prog_14_method_28_code_0 rfl)
theorem dX12_after_1 : decode cX12_after 1 = .ok (.sipush 1000, 3) := dq_17 (dst 1 rd_prog_14_method_28_code_0 rfl) (by decide +kernel)
theorem dX12_after_4 : decode cX12_after 4 = .ok (.idiv, 1) := dq_108 (dst 4 rd_prog_14_method_28_code_0 rfl)
theorem dX12_after_5 : decode cX12_after 5 = .ok (.istore 4, 2) := dq_54 (dst 5 rd_prog_14_method_28_code_0 rfl) rfl
theorem dX12_after_7 : decode cX12_after 7 = .ok (.iload_n 3, 1) := dq_29 (dst 7 rd_prog_14_method_28_code_0 rfl)
theorem dX12_after_8 : decode cX12_after 8 = .ok (.bipush 100, 2) := dq_16 (dst 8 rd_prog_14_method_28_code_0 rfl) (by decide +kernel)
theorem dX12_after_10 : decode cX12_after 10 = .ok (.idiv, 1) := dq_108 (dst 10 rd_prog_14_method_28_code_0 rfl)
theorem dX12_after_11 : decode cX12_after 11 = .ok (.bipush 10, 2) := dq_16 (dst 11 rd_prog_14_method_28_code_0 rfl) (by decide +kernel)
theorem dX12_after_13 : decode cX12_after 13 = .ok (.irem, 1) := dq_112 (dst 13 rd_prog_14_method_28_code_0 rfl)
theorem dX12_after_14 : decode cX12_after 14 = .ok (.istore 5, 2) := dq_54 (dst 14 rd_prog_14_method_28_code_0 rfl) rfl
theorem dX12_after_16 : decode cX12_after 16 = .ok (.iload_n 3, 1) := dq_29 (dst 16 rd_prog_14_method_28_code_0 rfl)
theorem dX12_after_17 : decode cX12_after 17 = .ok (.bipush 10, 2) := dq_16 (dst 17 rd_prog_14_method_28_code_0 rfl) (by decide +kernel)
theorem dX12_after_19 : decode cX12_after 19 = .ok (.idiv, 1) := dq_108 (dst 19 rd_prog_14_method_28_code_0 rfl)
theorem dX12_after_20 : decode cX12_after 20 = .ok (.bipush 10, 2) := dq_16 (dst 20 rd_prog_14_method_28_code_0 rfl) (by decide +kernel)
theorem dX12_after_22 : decode cX12_after 22 = .ok (.irem, 1) := dq_112 (dst 22 rd_prog_14_method_28_code_0 rfl)
theorem dX12_after_23 : decode cX12_after 23 = .ok (.istore 6, 2) := dq_54 (dst 23 rd_prog_14_method_28_code_0 rfl) rfl
theorem dX12_after_25 : decode cX12_after 25 = .ok (.iload_n 3, 1) := dq_29 (dst 25 rd_prog_14_method_28_code_0 rfl)
theorem dX12_after_26 : decode cX12_after 26 = .ok (.bipush 10, 2) := dq_16 (dst 26 rd_prog_14_method_28_code_0 rfl) (by decide +kernel)
theorem dX12_after_28 : decode cX12_after 28 = .ok (.irem, 1) := dq_112 (dst 28 rd_prog_14_method_28_code_0 rfl)
theorem dX12_after_29 : decode cX12_after 29 = .ok (.istore 7, 2) := dq_54 (dst 29 rd_prog_14_method_28_code_0 rfl) rfl
theorem dX12_after_31 : decode cX12_after 31 = .ok (.iload_n 3, 1) := dq_29 (dst 31 rd_prog_14_method_28_code_0 rfl)
theorem dX12_after_32 : decode cX12_after 32 = .ok (.sipush 10000, 3) := dq_17 (dst 0 rd_prog_14_method_28_code_1 rfl) (by decide +kernel)
theorem dX12_after_35 : decode cX12_after 35 = .ok (.if_icmp .ge 42, 3) := dq_162 (dst 3 rd_prog_14_method_28_code_1 rfl) (by decide +kernel)
theorem dX12_after_38 : decode cX12_after 38 = .ok (.iload 4, 2) := dq_21 (dst 6 rd_prog_14_method_28_code_1 rfl) rfl
theorem dX12_after_40 : decode cX12_after 40 = .ok (.iload_n 2, 1) := dq_28 (dst 8 rd_prog_14_method_28_code_1 rfl)
theorem dX12_after_41 : decode cX12_after 41 = .ok (.invokestatic 160, 3) := dq_184 (dst 9 rd_prog_14_method_28_code_1 rfl) rfl
theorem dX12_after_44 : decode cX12_after 44 = .ok (.if_icmp .gt 33, 3) := dq_163 (dst 12 rd_prog_14_method_28_code_1 rfl) (by decide +kernel)
theorem dX12_after_47 : decode cX12_after 47 = .ok (.iload 5, 2) := dq_21 (dst 15 rd_prog_14_method_28_code_1 rfl) rfl
theorem dX12_after_49 : decode cX12_after 49 = .ok (.aload_n 0, 1) := dq_42 (dst 17 rd_prog_14_method_28_code_1 rfl)
theorem dX12_after_50 : decode cX12_after 50 = .ok (.getfield 13, 3) := dq_180 (dst 18 rd_prog_14_method_28_code_1 rfl) rfl
theorem dX12_after_53 : decode cX12_after 53 = .ok (.bipush 15, 2) := dq_16 (dst 21 rd_prog_14_method_28_code_1 rfl) (by decide +kernel)
theorem dX12_after_55 : decode cX12_after 55 = .ok (.iload_n 1, 1) := dq_27 (dst 23 rd_prog_14_method_28_code_1 rfl)
theorem dX12_after_56 : decode cX12_after 56 = .ok (.iadd, 1) := dq_96 (dst 24 rd_prog_14_method_28_code_1 rfl)
theorem dX12_after_57 : decode cX12_after 57 = .ok (.iaload, 1) := dq_46 (dst 25 rd_prog_14_method_28_code_1 rfl)
theorem dX12_after_58 : decode cX12_after 58 = .ok (.if_icmp .gt 19, 3) := dq_163 (dst 26 rd_prog_14_method_28_code_1 rfl) (by decide +kernel)
theorem dX12_after_61 : decode cX12_after 61 = .ok (.iload 6, 2) := dq_21 (dst 29 rd_prog_14_method_28_code_1 rfl) rfl
theorem dX12_after_63 : decode cX12_after 63 = .ok (.iconst 2, 1) := dq_5 (dst 31 rd_prog_14_method_28_code_1 rfl)
theorem dX12_after_64 : decode cX12_after 64 = .ok (.if_icmp .ge 13, 3) := dq_162 (dst 0 rd_prog_14_method_28_code_2 rfl) (by decide +kernel)
theorem dX12_after_67 : decode cX12_after 67 = .ok (.iload 7, 2) := dq_21 (dst 3 rd_prog_14_method_28_code_2 rfl) rfl
theorem dX12_after_69 : decode cX12_after 69 = .ok (.iconst 3, 1) := dq_6 (dst 5 rd_prog_14_method_28_code_2 rfl)
theorem dX12_after_70 : decode cX12_after 70 = .ok (.if_icmp .ge 7, 3) := dq_162 (dst 6 rd_prog_14_method_28_code_2 rfl) (by decide +kernel)
theorem dX12_after_73 : decode cX12_after 73 = .ok (.iconst 1, 1) := dq_4 (dst 9 rd_prog_14_method_28_code_2 rfl)
theorem dX12_after_74 : decode cX12_after 74 = .ok (.goto 4, 3) := dq_167 (dst 10 rd_prog_14_method_28_code_2 rfl) (by decide +kernel)
theorem dX12_after_77 : decode cX12_after 77 = .ok (.iconst 0, 1) := dq_3 (dst 13 rd_prog_14_method_28_code_2 rfl)
theorem dX12_after_78 : decode cX12_after 78 = .ok (.istore 8, 2) := dq_54 (dst 14 rd_prog_14_method_28_code_2 rfl) rfl
theorem dX12_after_80 : decode cX12_after 80 = .ok (.iload 8, 2) := dq_21 (dst 16 rd_prog_14_method_28_code_2 rfl) rfl
theorem dX12_after_82 : decode cX12_after 82 = .ok (.ifCond .eq 68, 3) := dq_153 (dst 18 rd_prog_14_method_28_code_2 rfl) (by decide +kernel)
theorem dX12_after_85 : decode cX12_after 85 = .ok (.iload 4, 2) := dq_21 (dst 21 rd_prog_14_method_28_code_2 rfl) rfl
theorem dX12_after_87 : decode cX12_after 87 = .ok (.ifCond .eq 14, 3) := dq_153 (dst 23 rd_prog_14_method_28_code_2 rfl) (by decide +kernel)
theorem dX12_after_90 : decode cX12_after 90 = .ok (.aload_n 0, 1) := dq_42 (dst 26 rd_prog_14_method_28_code_2 rfl)
theorem dX12_after_91 : decode cX12_after 91 = .ok (.getfield 13, 3) := dq_180 (dst 27 rd_prog_14_method_28_code_2 rfl) rfl
theorem dX12_after_94 : decode cX12_after 94 = .ok (.iconst 4, 1) := dq_7 (dst 30 rd_prog_14_method_28_code_2 rfl)
theorem dX12_after_95 : decode cX12_after 95 = .ok (.iaload, 1) := dq_46 (dst 31 rd_prog_14_method_28_code_2 rfl)
theorem dX12_after_96 : decode cX12_after 96 = .ok (.bipush (-9), 2) := dq_16 (dst 0 rd_prog_14_method_28_code_3 rfl) (by decide +kernel)
theorem dX12_after_98 : decode cX12_after 98 = .ok (.if_icmp .eq 52, 3) := dq_159 (dst 2 rd_prog_14_method_28_code_3 rfl) (by decide +kernel)
theorem dX12_after_101 : decode cX12_after 101 = .ok (.iload 6, 2) := dq_21 (dst 5 rd_prog_14_method_28_code_3 rfl) rfl
theorem dX12_after_103 : decode cX12_after 103 = .ok (.ifCond .eq 14, 3) := dq_153 (dst 7 rd_prog_14_method_28_code_3 rfl) (by decide +kernel)
theorem dX12_after_106 : decode cX12_after 106 = .ok (.aload_n 0, 1) := dq_42 (dst 10 rd_prog_14_method_28_code_3 rfl)
theorem dX12_after_107 : decode cX12_after 107 = .ok (.getfield 13, 3) := dq_180 (dst 11 rd_prog_14_method_28_code_3 rfl) rfl
theorem dX12_after_110 : decode cX12_after 110 = .ok (.iconst 5, 1) := dq_8 (dst 14 rd_prog_14_method_28_code_3 rfl)
theorem dX12_after_111 : decode cX12_after 111 = .ok (.iaload, 1) := dq_46 (dst 15 rd_prog_14_method_28_code_3 rfl)
theorem dX12_after_112 : decode cX12_after 112 = .ok (.bipush (-9), 2) := dq_16 (dst 16 rd_prog_14_method_28_code_3 rfl) (by decide +kernel)
theorem dX12_after_114 : decode cX12_after 114 = .ok (.if_icmp .eq 36, 3) := dq_159 (dst 18 rd_prog_14_method_28_code_3 rfl) (by decide +kernel)
theorem dX12_after_117 : decode cX12_after 117 = .ok (.iload 7, 2) := dq_21 (dst 21 rd_prog_14_method_28_code_3 rfl) rfl
theorem dX12_after_119 : decode cX12_after 119 = .ok (.ifCond .eq 27, 3) := dq_153 (dst 23 rd_prog_14_method_28_code_3 rfl) (by decide +kernel)
theorem dX12_after_122 : decode cX12_after 122 = .ok (.aload_n 0, 1) := dq_42 (dst 26 rd_prog_14_method_28_code_3 rfl)
theorem dX12_after_123 : decode cX12_after 123 = .ok (.getfield 13, 3) := dq_180 (dst 27 rd_prog_14_method_28_code_3 rfl) rfl
theorem dX12_after_126 : decode cX12_after 126 = .ok (.bipush 6, 2) := dq_16 (dst 30 rd_prog_14_method_28_code_3 rfl) (by decide +kernel)
theorem dX12_after_128 : decode cX12_after 128 = .ok (.iaload, 1) := dq_46 (dst 0 rd_prog_14_method_28_code_4 rfl)
theorem dX12_after_129 : decode cX12_after 129 = .ok (.bipush (-9), 2) := dq_16 (dst 1 rd_prog_14_method_28_code_4 rfl) (by decide +kernel)
theorem dX12_after_131 : decode cX12_after 131 = .ok (.if_icmp .eq 19, 3) := dq_159 (dst 3 rd_prog_14_method_28_code_4 rfl) (by decide +kernel)
theorem dX12_after_134 : decode cX12_after 134 = .ok (.iload_n 1, 1) := dq_27 (dst 6 rd_prog_14_method_28_code_4 rfl)
theorem dX12_after_135 : decode cX12_after 135 = .ok (.aload_n 0, 1) := dq_42 (dst 7 rd_prog_14_method_28_code_4 rfl)
theorem dX12_after_136 : decode cX12_after 136 = .ok (.getfield 13, 3) := dq_180 (dst 8 rd_prog_14_method_28_code_4 rfl) rfl
theorem dX12_after_139 : decode cX12_after 139 = .ok (.iconst 0, 1) := dq_3 (dst 11 rd_prog_14_method_28_code_4 rfl)
theorem dX12_after_140 : decode cX12_after 140 = .ok (.iaload, 1) := dq_46 (dst 12 rd_prog_14_method_28_code_4 rfl)
theorem dX12_after_141 : decode cX12_after 141 = .ok (.iconst 1, 1) := dq_4 (dst 13 rd_prog_14_method_28_code_4 rfl)
theorem dX12_after_142 : decode cX12_after 142 = .ok (.isub, 1) := dq_100 (dst 14 rd_prog_14_method_28_code_4 rfl)
theorem dX12_after_143 : decode cX12_after 143 = .ok (.if_icmp .ge 7, 3) := dq_162 (dst 15 rd_prog_14_method_28_code_4 rfl) (by decide +kernel)
theorem dX12_after_146 : decode cX12_after 146 = .ok (.iconst 1, 1) := dq_4 (dst 18 rd_prog_14_method_28_code_4 rfl)
theorem dX12_after_147 : decode cX12_after 147 = .ok (.goto 4, 3) := dq_167 (dst 19 rd_prog_14_method_28_code_4 rfl) (by decide +kernel)
theorem dX12_after_150 : decode cX12_after 150 = .ok (.iconst 0, 1) := dq_3 (dst 22 rd_prog_14_method_28_code_4 rfl)
theorem dX12_after_151 : decode cX12_after 151 = .ok (.istore 8, 2) := dq_54 (dst 23 rd_prog_14_method_28_code_4 rfl) rfl
theorem dX12_after_153 : decode cX12_after 153 = .ok (.iload 8, 2) := dq_21 (dst 25 rd_prog_14_method_28_code_4 rfl) rfl
theorem dX12_after_155 : decode cX12_after 155 = .ok (.ifCond .ne 6, 3) := dq_154 (dst 27 rd_prog_14_method_28_code_4 rfl) (by decide +kernel)
theorem dX12_after_158 : decode cX12_after 158 = .ok (.bipush (-9), 2) := dq_16 (dst 30 rd_prog_14_method_28_code_4 rfl) (by decide +kernel)
theorem dX12_after_160 : decode cX12_after 160 = .ok (.ireturn, 1) := dq_172 (dst 0 rd_prog_14_method_28_code_5 rfl)
theorem dX12_after_161 : decode cX12_after 161 = .ok (.iload_n 2, 1) := dq_28 (dst 1 rd_prog_14_method_28_code_5 rfl)
theorem dX12_after_162 : decode cX12_after 162 = .ok (.iload 4, 2) := dq_21 (dst 2 rd_prog_14_method_28_code_5 rfl) rfl
theorem dX12_after_164 : decode cX12_after 164 = .ok (.invokestatic 163, 3) := dq_184 (dst 4 rd_prog_14_method_28_code_5 rfl) rfl
theorem dX12_after_167 : decode cX12_after 167 = .ok (.bipush 100, 2) := dq_16 (dst 7 rd_prog_14_method_28_code_5 rfl) (by decide +kernel)
theorem dX12_after_169 : decode cX12_after 169 = .ok (.iload 5, 2) := dq_21 (dst 9 rd_prog_14_method_28_code_5 rfl) rfl
theorem dX12_after_171 : decode cX12_after 171 = .ok (.imul, 1) := dq_104 (dst 11 rd_prog_14_method_28_code_5 rfl)
theorem dX12_after_172 : decode cX12_after 172 = .ok (.iadd, 1) := dq_96 (dst 12 rd_prog_14_method_28_code_5 rfl)
theorem dX12_after_173 : decode cX12_after 173 = .ok (.istore 9, 2) := dq_54 (dst 13 rd_prog_14_method_28_code_5 rfl) rfl
theorem dX12_after_175 : decode cX12_after 175 = .ok (.iload 9, 2) := dq_21 (dst 15 rd_prog_14_method_28_code_5 rfl) rfl
theorem dX12_after_177 : decode cX12_after 177 = .ok (.invokestatic 160, 3) := dq_184 (dst 17 rd_prog_14_method_28_code_5 rfl) rfl
theorem dX12_after_180 : decode cX12_after 180 = .ok (.aload_n 0, 1) := dq_42 (dst 20 rd_prog_14_method_28_code_5 rfl)
theorem dX12_after_181 : decode cX12_after 181 = .ok (.getfield 13, 3) := dq_180 (dst 21 rd_prog_14_method_28_code_5 rfl) rfl
theorem dX12_after_184 : decode cX12_after 184 = .ok (.iconst 1, 1) := dq_4 (dst 24 rd_prog_14_method_28_code_5 rfl)
theorem dX12_after_185 : decode cX12_after 185 = .ok (.iaload, 1) := dq_46 (dst 25 rd_prog_14_method_28_code_5 rfl)
theorem dX12_after_186 : decode cX12_after 186 = .ok (.if_icmp .gt 25, 3) := dq_163 (dst 26 rd_prog_14_method_28_code_5 rfl) (by decide +kernel)
theorem dX12_after_189 : decode cX12_after 189 = .ok (.iload 6, 2) := dq_21 (dst 29 rd_prog_14_method_28_code_5 rfl) rfl
theorem dX12_after_191 : decode cX12_after 191 = .ok (.iconst 1, 1) := dq_4 (dst 31 rd_prog_14_method_28_code_5 rfl)
theorem dX12_after_192 : decode cX12_after 192 = .ok (.if_icmp .ne 22, 3) := dq_160 (dst 0 rd_prog_14_method_28_code_6 rfl) (by decide +kernel)
theorem dX12_after_195 : decode cX12_after 195 = .ok (.iload 9, 2) := dq_21 (dst 3 rd_prog_14_method_28_code_6 rfl) rfl
theorem dX12_after_197 : decode cX12_after 197 = .ok (.bipush 100, 2) := dq_16 (dst 5 rd_prog_14_method_28_code_6 rfl) (by decide +kernel)
theorem dX12_after_199 : decode cX12_after 199 = .ok (.idiv, 1) := dq_108 (dst 7 rd_prog_14_method_28_code_6 rfl)
theorem dX12_after_200 : decode cX12_after 200 = .ok (.ifCond .eq 11, 3) := dq_153 (dst 8 rd_prog_14_method_28_code_6 rfl) (by decide +kernel)
theorem dX12_after_203 : decode cX12_after 203 = .ok (.iload 9, 2) := dq_21 (dst 11 rd_prog_14_method_28_code_6 rfl) rfl
theorem dX12_after_205 : decode cX12_after 205 = .ok (.bipush 10, 2) := dq_16 (dst 13 rd_prog_14_method_28_code_6 rfl) (by decide +kernel)
theorem dX12_after_207 : decode cX12_after 207 = .ok (.irem, 1) := dq_112 (dst 15 rd_prog_14_method_28_code_6 rfl)
theorem dX12_after_208 : decode cX12_after 208 = .ok (.ifCond .ne 6, 3) := dq_154 (dst 16 rd_prog_14_method_28_code_6 rfl) (by decide +kernel)
theorem dX12_after_211 : decode cX12_after 211 = .ok (.bipush (-9), 2) := dq_16 (dst 19 rd_prog_14_method_28_code_6 rfl) (by decide +kernel)
theorem dX12_after_213 : decode cX12_after 213 = .ok (.ireturn, 1) := dq_172 (dst 21 rd_prog_14_method_28_code_6 rfl)
theorem dX12_after_214 : decode cX12_after 214 = .ok (.iload 6, 2) := dq_21 (dst 22 rd_prog_14_method_28_code_6 rfl) rfl
theorem dX12_after_216 : decode cX12_after 216 = .ok (.iconst 1, 1) := dq_4 (dst 24 rd_prog_14_method_28_code_6 rfl)
theorem dX12_after_217 : decode cX12_after 217 = .ok (.if_icmp .ne 11, 3) := dq_160 (dst 25 rd_prog_14_method_28_code_6 rfl) (by decide +kernel)
theorem dX12_after_220 : decode cX12_after 220 = .ok (.iload 9, 2) := dq_21 (dst 28 rd_prog_14_method_28_code_6 rfl) rfl
theorem dX12_after_222 : decode cX12_after 222 = .ok (.bipush 90, 2) := dq_16 (dst 30 rd_prog_14_method_28_code_6 rfl) (by decide +kernel)
theorem dX12_after_224 : decode cX12_after 224 = .ok (.isub, 1) := dq_100 (dst 0 rd_prog_14_method_28_code_7 rfl)
theorem dX12_after_225 : decode cX12_after 225 = .ok (.goto 5, 3) := dq_167 (dst 1 rd_prog_14_method_28_code_7 rfl) (by decide +kernel)
theorem dX12_after_228 : decode cX12_after 228 = .ok (.iload 9, 2) := dq_21 (dst 4 rd_prog_14_method_28_code_7 rfl) rfl
theorem dX12_after_230 : decode cX12_after 230 = .ok (.ireturn, 1) := dq_172 (dst 6 rd_prog_14_method_28_code_7 rfl)
theorem dX12_over_0 : decode cX12_over 0 = .ok (.iload_n 2, 1) := dq_28 (dst 0 rd_prog_14_method_29_code_0 rfl)
theorem dX12_over_1 : decode cX12_over 1 = .ok (.bipush 10, 2) := dq_16 (dst 1 rd_prog_14_method_29_code_0 rfl) (by decide +kernel)
theorem dX12_over_3 : decode cX12_over 3 = .ok (.irem, 1) := dq_112 (dst 3 rd_prog_14_method_29_code_0 rfl)
theorem dX12_over_4 : decode cX12_over 4 = .ok (.iload_n 3, 1) := dq_29 (dst 4 rd_prog_14_method_29_code_0 rfl)
theorem dX12_over_5 : decode cX12_over 5 = .ok (.iadd, 1) := dq_96 (dst 5 rd_prog_14_method_29_code_0 rfl)
theorem dX12_over_6 : decode cX12_over 6 = .ok (.iload 4, 2) := dq_21 (dst 6 rd_prog_14_method_29_code_0 rfl) rfl
theorem dX12_over_8 : decode cX12_over 8 = .ok (.bipush 10, 2) := dq_16 (dst 8 rd_prog_14_method_29_code_0 rfl) (by decide +kernel)
theorem dX12_over_10 : decode cX12_over 10 = .ok (.idiv, 1) := dq_108 (dst 10 rd_prog_14_method_29_code_0 rfl)
theorem dX12_over_11 : decode cX12_over 11 = .ok (.bipush 10, 2) := dq_16 (dst 11 rd_prog_14_method_29_code_0 rfl) (by decide +kernel)
theorem dX12_over_13 : decode cX12_over 13 = .ok (.irem, 1) := dq_112 (dst 13 rd_prog_14_method_29_code_0 rfl)
theorem dX12_over_14 : decode cX12_over 14 = .ok (.isub, 1) := dq_100 (dst 14 rd_prog_14_method_29_code_0 rfl)
theorem dX12_over_15 : decode cX12_over 15 = .ok (.istore 5, 2) := dq_54 (dst 15 rd_prog_14_method_29_code_0 rfl) rfl
theorem dX12_over_17 : decode cX12_over 17 = .ok (.iload_n 2, 1) := dq_28 (dst 17 rd_prog_14_method_29_code_0 rfl)
theorem dX12_over_18 : decode cX12_over 18 = .ok (.bipush 100, 2) := dq_16 (dst 18 rd_prog_14_method_29_code_0 rfl) (by decide +kernel)
theorem dX12_over_20 : decode cX12_over 20 = .ok (.idiv, 1) := dq_108 (dst 20 rd_prog_14_method_29_code_0 rfl)
theorem dX12_over_21 : decode cX12_over 21 = .ok (.aload_n 0, 1) := dq_42 (dst 21 rd_prog_14_method_29_code_0 rfl)
theorem dX12_over_22 : decode cX12_over 22 = .ok (.getfield 13, 3) := dq_180 (dst 22 rd_prog_14_method_29_code_0 rfl) rfl
theorem dX12_over_25 : decode cX12_over 25 = .ok (.bipush 23, 2) := dq_16 (dst 25 rd_prog_14_method_29_code_0 rfl) (by decide +kernel)
theorem dX12_over_27 : decode cX12_over 27 = .ok (.iaload, 1) := dq_46 (dst 27 rd_prog_14_method_29_code_0 rfl)
theorem dX12_over_28 : decode cX12_over 28 = .ok (.imul, 1) := dq_104 (dst 28 rd_prog_14_method_29_code_0 rfl)
theorem dX12_over_29 : decode cX12_over 29 = .ok (.iload_n 2, 1) := dq_28 (dst 29 rd_prog_14_method_29_code_0 rfl)
theorem dX12_over_30 : decode cX12_over 30 = .ok (.bipush 10, 2) := dq_16 (dst 30 rd_prog_14_method_29_code_0 rfl) (by decide +kernel)
theorem dX12_over_32 : decode cX12_over 32 = .ok (.idiv, 1) := dq_108 (dst 0 rd_prog_14_method_29_code_1 rfl)
theorem dX12_over_33 : decode cX12_over 33 = .ok (.bipush 10, 2) := dq_16 (dst 1 rd_prog_14_method_29_code_1 rfl) (by decide +kernel)
theorem dX12_over_35 : decode cX12_over 35 = .ok (.irem, 1) := dq_112 (dst 3 rd_prog_14_method_29_code_1 rfl)
theorem dX12_over_36 : decode cX12_over 36 = .ok (.aload_n 0, 1) := dq_42 (dst 4 rd_prog_14_method_29_code_1 rfl)
theorem dX12_over_37 : decode cX12_over 37 = .ok (.getfield 13, 3) := dq_180 (dst 5 rd_prog_14_method_29_code_1 rfl) rfl
theorem dX12_over_40 : decode cX12_over 40 = .ok (.bipush 24, 2) := dq_16 (dst 8 rd_prog_14_method_29_code_1 rfl) (by decide +kernel)
theorem dX12_over_42 : decode cX12_over 42 = .ok (.iaload, 1) := dq_46 (dst 10 rd_prog_14_method_29_code_1 rfl)
theorem dX12_over_43 : decode cX12_over 43 = .ok (.imul, 1) := dq_104 (dst 11 rd_prog_14_method_29_code_1 rfl)
theorem dX12_over_44 : decode cX12_over 44 = .ok (.iadd, 1) := dq_96 (dst 12 rd_prog_14_method_29_code_1 rfl)
theorem dX12_over_45 : decode cX12_over 45 = .ok (.iload 5, 2) := dq_21 (dst 13 rd_prog_14_method_29_code_1 rfl) rfl
theorem dX12_over_47 : decode cX12_over 47 = .ok (.aload_n 0, 1) := dq_42 (dst 15 rd_prog_14_method_29_code_1 rfl)
theorem dX12_over_48 : decode cX12_over 48 = .ok (.getfield 13, 3) := dq_180 (dst 16 rd_prog_14_method_29_code_1 rfl) rfl
theorem dX12_over_51 : decode cX12_over 51 = .ok (.bipush 25, 2) := dq_16 (dst 19 rd_prog_14_method_29_code_1 rfl) (by decide +kernel)
theorem dX12_over_53 : decode cX12_over 53 = .ok (.iaload, 1) := dq_46 (dst 21 rd_prog_14_method_29_code_1 rfl)
theorem dX12_over_54 : decode cX12_over 54 = .ok (.imul, 1) := dq_104 (dst 22 rd_prog_14_method_29_code_1 rfl)
theorem dX12_over_55 : decode cX12_over 55 = .ok (.iadd, 1) := dq_96 (dst 23 rd_prog_14_method_29_code_1 rfl)
theorem dX12_over_56 : decode cX12_over 56 = .ok (.aload_n 0, 1) := dq_42 (dst 24 rd_prog_14_method_29_code_1 rfl)
theorem dX12_over_57 : decode cX12_over 57 = .ok (.getfield 13, 3) := dq_180 (dst 25 rd_prog_14_method_29_code_1 rfl) rfl
theorem dX12_over_60 : decode cX12_over 60 = .ok (.bipush 10, 2) := dq_16 (dst 28 rd_prog_14_method_29_code_1 rfl) (by decide +kernel)
theorem dX12_over_62 : decode cX12_over 62 = .ok (.iload_n 1, 1) := dq_27 (dst 30 rd_prog_14_method_29_code_1 rfl)
theorem dX12_over_63 : decode cX12_over 63 = .ok (.iadd, 1) := dq_96 (dst 31 rd_prog_14_method_29_code_1 rfl)
theorem dX12_over_64 : decode cX12_over 64 = .ok (.iaload, 1) := dq_46 (dst 0 rd_prog_14_method_29_code_2 rfl)
theorem dX12_over_65 : decode cX12_over 65 = .ok (.isub, 1) := dq_100 (dst 1 rd_prog_14_method_29_code_2 rfl)
theorem dX12_over_66 : decode cX12_over 66 = .ok (.ireturn, 1) := dq_172 (dst 2 rd_prog_14_method_29_code_2 rfl)
theorem lf_X12_costOf_1 : ∀ w ∈ ([Cond.fieldLink RX12 13 "StillInAugustModel" "house" "[I", Cond.methodLink RX12 167 yX12_over, Cond.instanceMethod yX12_over, Cond.selects RX12 yX12_over yX12_over, Cond.initialized RX12, Cond.code yX12_over cX12_over 6 (some .int), Cond.methodLink RX12 160 yX12_all, Cond.static yX12_all, Cond.code yX12_all cX12_all 1 (some .int)] : List Cond), w ∈ wsX12_costOf := fun _ h => (List.mem_cons_of_mem _ (List.mem_append_left _ h))
theorem lf_X12_costOf_2 : ∀ w ∈ wsX120, w ∈ wsX12_costOf := fun _ h => (List.mem_cons_of_mem _ (List.mem_append_right _ h))
set_option maxRecDepth 20000 in
theorem ggX12_costOf_X12_over : GoodIn wsX12_costOf wsX12_over := (gd_cons (lf_X12_costOf_1 _ (List.mem_of_getElem? (i := 5) rfl)) rfl (goodIn_app (gd_cons (lf_X12_costOf_1 _ (List.mem_of_getElem? (i := 0) rfl)) rfl (gd_nil _)) (goodIn_sub lf_X12_costOf_2 ga_wsX120)))
set_option maxRecDepth 20000 in
theorem gX12_costOf_X12_over : GoodIn wsX12_costOf (wsV RX12 167 RX12 yX12_over wsX12_over) := goodIn_app (gd_cons (lf_X12_costOf_1 _ (List.mem_of_getElem? (i := 1) rfl)) rfl (gd_cons (lf_X12_costOf_1 _ (List.mem_of_getElem? (i := 2) rfl)) rfl (gd_cons (lf_X12_costOf_1 _ (List.mem_of_getElem? (i := 3) rfl)) rfl (gd_cons (lf_X12_costOf_1 _ (List.mem_of_getElem? (i := 4) rfl)) rfl (gd_nil _))))) ggX12_costOf_X12_over
set_option maxRecDepth 20000 in
theorem ggX12_costOf_X12_all : GoodIn wsX12_costOf wsX12_all := (gd_cons (lf_X12_costOf_1 _ (List.mem_of_getElem? (i := 8) rfl)) rfl (gd_nil _))
set_option maxRecDepth 20000 in
theorem gX12_costOf_X12_all : GoodIn wsX12_costOf (va_wsS RX12 160 yX12_all wsX12_all) := goodIn_app (gd_cons (lf_X12_costOf_1 _ (List.mem_of_getElem? (i := 6) rfl)) rfl (gd_cons (lf_X12_costOf_1 _ (List.mem_of_getElem? (i := 7) rfl)) rfl (gd_cons (lf_X12_costOf_1 _ (List.mem_of_getElem? (i := 4) rfl)) rfl (gd_nil _)))) ggX12_costOf_X12_all
theorem dX12_costOf_0 : decode cX12_costOf 0 = .ok (.aload_n 0, 1) := dq_42 (dst 0 rd_prog_14_method_30_code_0 rfl)
theorem dX12_costOf_1 : decode cX12_costOf 1 = .ok (.iload_n 1, 1) := dq_27 (dst 1 rd_prog_14_method_30_code_0 rfl)
theorem dX12_costOf_2 : decode cX12_costOf 2 = .ok (.iload_n 2, 1) := dq_28 (dst 2 rd_prog_14_method_30_code_0 rfl)
theorem dX12_costOf_3 : decode cX12_costOf 3 = .ok (.iload_n 3, 1) := dq_29 (dst 3 rd_prog_14_method_30_code_0 rfl)
theorem dX12_costOf_4 : decode cX12_costOf 4 = .ok (.iload 4, 2) := dq_21 (dst 4 rd_prog_14_method_30_code_0 rfl) rfl
theorem dX12_costOf_6 : decode cX12_costOf 6 = .ok (.invokevirtual 167, 3) := dq_182 (dst 6 rd_prog_14_method_30_code_0 rfl) rfl
theorem dX12_costOf_9 : decode cX12_costOf 9 = .ok (.istore 5, 2) := dq_54 (dst 9 rd_prog_14_method_30_code_0 rfl) rfl
theorem dX12_costOf_11 : decode cX12_costOf 11 = .ok (.aload_n 0, 1) := dq_42 (dst 11 rd_prog_14_method_30_code_0 rfl)
theorem dX12_costOf_12 : decode cX12_costOf 12 = .ok (.getfield 13, 3) := dq_180 (dst 12 rd_prog_14_method_30_code_0 rfl) rfl
theorem dX12_costOf_15 : decode cX12_costOf 15 = .ok (.iconst 2, 1) := dq_5 (dst 15 rd_prog_14_method_30_code_0 rfl)
theorem dX12_costOf_16 : decode cX12_costOf 16 = .ok (.iaload, 1) := dq_46 (dst 16 rd_prog_14_method_30_code_0 rfl)
theorem dX12_costOf_17 : decode cX12_costOf 17 = .ok (.iload_n 2, 1) := dq_28 (dst 17 rd_prog_14_method_30_code_0 rfl)
theorem dX12_costOf_18 : decode cX12_costOf 18 = .ok (.invokestatic 160, 3) := dq_184 (dst 18 rd_prog_14_method_30_code_0 rfl) rfl
theorem dX12_costOf_21 : decode cX12_costOf 21 = .ok (.imul, 1) := dq_104 (dst 21 rd_prog_14_method_30_code_0 rfl)
theorem dX12_costOf_22 : decode cX12_costOf 22 = .ok (.iload 5, 2) := dq_21 (dst 22 rd_prog_14_method_30_code_0 rfl) rfl
theorem dX12_costOf_24 : decode cX12_costOf 24 = .ok (.ifCond .ge 16, 3) := dq_156 (dst 24 rd_prog_14_method_30_code_0 rfl) (by decide +kernel)
theorem dX12_costOf_27 : decode cX12_costOf 27 = .ok (.iload 5, 2) := dq_21 (dst 27 rd_prog_14_method_30_code_0 rfl) rfl
theorem dX12_costOf_29 : decode cX12_costOf 29 = .ok (.ineg, 1) := dq_116 (dst 29 rd_prog_14_method_30_code_0 rfl)
theorem dX12_costOf_30 : decode cX12_costOf 30 = .ok (.aload_n 0, 1) := dq_42 (dst 30 rd_prog_14_method_30_code_0 rfl)
theorem dX12_costOf_31 : decode cX12_costOf 31 = .ok (.getfield 13, 3) := dq_180 (dst 31 rd_prog_14_method_30_code_0 rfl) rfl
theorem dX12_costOf_34 : decode cX12_costOf 34 = .ok (.iconst 3, 1) := dq_6 (dst 2 rd_prog_14_method_30_code_1 rfl)
theorem dX12_costOf_35 : decode cX12_costOf 35 = .ok (.iaload, 1) := dq_46 (dst 3 rd_prog_14_method_30_code_1 rfl)
theorem dX12_costOf_36 : decode cX12_costOf 36 = .ok (.imul, 1) := dq_104 (dst 4 rd_prog_14_method_30_code_1 rfl)
theorem dX12_costOf_37 : decode cX12_costOf 37 = .ok (.goto 4, 3) := dq_167 (dst 5 rd_prog_14_method_30_code_1 rfl) (by decide +kernel)
theorem dX12_costOf_40 : decode cX12_costOf 40 = .ok (.iconst 0, 1) := dq_3 (dst 8 rd_prog_14_method_30_code_1 rfl)
theorem dX12_costOf_41 : decode cX12_costOf 41 = .ok (.iadd, 1) := dq_96 (dst 9 rd_prog_14_method_30_code_1 rfl)
theorem dX12_costOf_42 : decode cX12_costOf 42 = .ok (.iload_n 3, 1) := dq_29 (dst 10 rd_prog_14_method_30_code_1 rfl)
theorem dX12_costOf_43 : decode cX12_costOf 43 = .ok (.aload_n 0, 1) := dq_42 (dst 11 rd_prog_14_method_30_code_1 rfl)
theorem dX12_costOf_44 : decode cX12_costOf 44 = .ok (.getfield 13, 3) := dq_180 (dst 12 rd_prog_14_method_30_code_1 rfl) rfl
theorem dX12_costOf_47 : decode cX12_costOf 47 = .ok (.bipush 6, 2) := dq_16 (dst 15 rd_prog_14_method_30_code_1 rfl) (by decide +kernel)
theorem dX12_costOf_49 : decode cX12_costOf 49 = .ok (.iaload, 1) := dq_46 (dst 17 rd_prog_14_method_30_code_1 rfl)
theorem dX12_costOf_50 : decode cX12_costOf 50 = .ok (.bipush (-9), 2) := dq_16 (dst 18 rd_prog_14_method_30_code_1 rfl) (by decide +kernel)
theorem dX12_costOf_52 : decode cX12_costOf 52 = .ok (.if_icmp .ne 7, 3) := dq_160 (dst 20 rd_prog_14_method_30_code_1 rfl) (by decide +kernel)
theorem dX12_costOf_55 : decode cX12_costOf 55 = .ok (.iconst 0, 1) := dq_3 (dst 23 rd_prog_14_method_30_code_1 rfl)
theorem dX12_costOf_56 : decode cX12_costOf 56 = .ok (.goto 10, 3) := dq_167 (dst 24 rd_prog_14_method_30_code_1 rfl) (by decide +kernel)
theorem dX12_costOf_59 : decode cX12_costOf 59 = .ok (.aload_n 0, 1) := dq_42 (dst 27 rd_prog_14_method_30_code_1 rfl)
theorem dX12_costOf_60 : decode cX12_costOf 60 = .ok (.getfield 13, 3) := dq_180 (dst 28 rd_prog_14_method_30_code_1 rfl) rfl
theorem dX12_costOf_63 : decode cX12_costOf 63 = .ok (.bipush 6, 2) := dq_16 (dst 31 rd_prog_14_method_30_code_1 rfl) (by decide +kernel)
theorem dX12_costOf_65 : decode cX12_costOf 65 = .ok (.iaload, 1) := dq_46 (dst 1 rd_prog_14_method_30_code_2 rfl)
theorem dX12_costOf_66 : decode cX12_costOf 66 = .ok (.imul, 1) := dq_104 (dst 2 rd_prog_14_method_30_code_2 rfl)
theorem dX12_costOf_67 : decode cX12_costOf 67 = .ok (.iadd, 1) := dq_96 (dst 3 rd_prog_14_method_30_code_2 rfl)
theorem dX12_costOf_68 : decode cX12_costOf 68 = .ok (.istore 6, 2) := dq_54 (dst 4 rd_prog_14_method_30_code_2 rfl) rfl
theorem dX12_costOf_70 : decode cX12_costOf 70 = .ok (.iload 6, 2) := dq_21 (dst 6 rd_prog_14_method_30_code_2 rfl) rfl
theorem dX12_costOf_72 : decode cX12_costOf 72 = .ok (.iload 4, 2) := dq_21 (dst 8 rd_prog_14_method_30_code_2 rfl) rfl
theorem dX12_costOf_74 : decode cX12_costOf 74 = .ok (.sipush 1000, 3) := dq_17 (dst 10 rd_prog_14_method_30_code_2 rfl) (by decide +kernel)
theorem dX12_costOf_77 : decode cX12_costOf 77 = .ok (.idiv, 1) := dq_108 (dst 13 rd_prog_14_method_30_code_2 rfl)
theorem dX12_costOf_78 : decode cX12_costOf 78 = .ok (.ifCond .le 19, 3) := dq_158 (dst 14 rd_prog_14_method_30_code_2 rfl) (by decide +kernel)
theorem dX12_costOf_81 : decode cX12_costOf 81 = .ok (.iload 4, 2) := dq_21 (dst 17 rd_prog_14_method_30_code_2 rfl) rfl
theorem dX12_costOf_83 : decode cX12_costOf 83 = .ok (.sipush 1000, 3) := dq_17 (dst 19 rd_prog_14_method_30_code_2 rfl) (by decide +kernel)
theorem dX12_costOf_86 : decode cX12_costOf 86 = .ok (.idiv, 1) := dq_108 (dst 22 rd_prog_14_method_30_code_2 rfl)
theorem dX12_costOf_87 : decode cX12_costOf 87 = .ok (.aload_n 0, 1) := dq_42 (dst 23 rd_prog_14_method_30_code_2 rfl)
theorem dX12_costOf_88 : decode cX12_costOf 88 = .ok (.getfield 13, 3) := dq_180 (dst 24 rd_prog_14_method_30_code_2 rfl) rfl
theorem dX12_costOf_91 : decode cX12_costOf 91 = .ok (.iconst 4, 1) := dq_7 (dst 27 rd_prog_14_method_30_code_2 rfl)
theorem dX12_costOf_92 : decode cX12_costOf 92 = .ok (.iaload, 1) := dq_46 (dst 28 rd_prog_14_method_30_code_2 rfl)
theorem dX12_costOf_93 : decode cX12_costOf 93 = .ok (.imul, 1) := dq_104 (dst 29 rd_prog_14_method_30_code_2 rfl)
theorem dX12_costOf_94 : decode cX12_costOf 94 = .ok (.goto 4, 3) := dq_167 (dst 30 rd_prog_14_method_30_code_2 rfl) (by decide +kernel)
theorem dX12_costOf_97 : decode cX12_costOf 97 = .ok (.iconst 0, 1) := dq_3 (dst 1 rd_prog_14_method_30_code_3 rfl)
theorem dX12_costOf_98 : decode cX12_costOf 98 = .ok (.iadd, 1) := dq_96 (dst 2 rd_prog_14_method_30_code_3 rfl)
theorem dX12_costOf_99 : decode cX12_costOf 99 = .ok (.istore 6, 2) := dq_54 (dst 3 rd_prog_14_method_30_code_3 rfl) rfl
theorem dX12_costOf_101 : decode cX12_costOf 101 = .ok (.iload 6, 2) := dq_21 (dst 5 rd_prog_14_method_30_code_3 rfl) rfl
theorem dX12_costOf_103 : decode cX12_costOf 103 = .ok (.iload 4, 2) := dq_21 (dst 7 rd_prog_14_method_30_code_3 rfl) rfl
theorem dX12_costOf_105 : decode cX12_costOf 105 = .ok (.bipush 10, 2) := dq_16 (dst 9 rd_prog_14_method_30_code_3 rfl) (by decide +kernel)
theorem dX12_costOf_107 : decode cX12_costOf 107 = .ok (.idiv, 1) := dq_108 (dst 11 rd_prog_14_method_30_code_3 rfl)
theorem dX12_costOf_108 : decode cX12_costOf 108 = .ok (.bipush 10, 2) := dq_16 (dst 12 rd_prog_14_method_30_code_3 rfl) (by decide +kernel)
theorem dX12_costOf_110 : decode cX12_costOf 110 = .ok (.irem, 1) := dq_112 (dst 14 rd_prog_14_method_30_code_3 rfl)
theorem dX12_costOf_111 : decode cX12_costOf 111 = .ok (.iconst 1, 1) := dq_4 (dst 15 rd_prog_14_method_30_code_3 rfl)
theorem dX12_costOf_112 : decode cX12_costOf 112 = .ok (.if_icmp .ne 12, 3) := dq_160 (dst 16 rd_prog_14_method_30_code_3 rfl) (by decide +kernel)
theorem dX12_costOf_115 : decode cX12_costOf 115 = .ok (.aload_n 0, 1) := dq_42 (dst 19 rd_prog_14_method_30_code_3 rfl)
theorem dX12_costOf_116 : decode cX12_costOf 116 = .ok (.getfield 13, 3) := dq_180 (dst 20 rd_prog_14_method_30_code_3 rfl) rfl
theorem dX12_costOf_119 : decode cX12_costOf 119 = .ok (.iconst 5, 1) := dq_8 (dst 23 rd_prog_14_method_30_code_3 rfl)
theorem dX12_costOf_120 : decode cX12_costOf 120 = .ok (.iaload, 1) := dq_46 (dst 24 rd_prog_14_method_30_code_3 rfl)
theorem dX12_costOf_121 : decode cX12_costOf 121 = .ok (.goto 4, 3) := dq_167 (dst 25 rd_prog_14_method_30_code_3 rfl) (by decide +kernel)
theorem dX12_costOf_124 : decode cX12_costOf 124 = .ok (.iconst 0, 1) := dq_3 (dst 28 rd_prog_14_method_30_code_3 rfl)
theorem dX12_costOf_125 : decode cX12_costOf 125 = .ok (.iadd, 1) := dq_96 (dst 29 rd_prog_14_method_30_code_3 rfl)
theorem dX12_costOf_126 : decode cX12_costOf 126 = .ok (.ireturn, 1) := dq_172 (dst 30 rd_prog_14_method_30_code_3 rfl)
theorem lf_X12_may_1 : ∀ w ∈ ([Cond.methodLink RX12 152 yX12_isWeek, Cond.instanceMethod yX12_isWeek, Cond.selects RX12 yX12_isWeek yX12_isWeek, Cond.initialized RX12, Cond.code yX12_isWeek cX12_isWeek 2 (some .boolean), Cond.fieldLink RX12 13 "StillInAugustModel" "house" "[I", Cond.methodLink RX12 73 yX12_in, Cond.static yX12_in, Cond.code yX12_in cX12_in 6 (some .boolean), Cond.methodLink RX12 171 yX12_isHands, Cond.instanceMethod yX12_isHands, Cond.selects RX12 yX12_isHands yX12_isHands, Cond.code yX12_isHands cX12_isHands 2 (some .boolean), Cond.constantLong RX12 158 (999), Cond.methodLink RX12 160 yX12_all, Cond.static yX12_all, Cond.code yX12_all cX12_all 1 (some .int), Cond.methodLink RX12 174 yX12_after, Cond.instanceMethod yX12_after, Cond.selects RX12 yX12_after yX12_after, Cond.code yX12_after cX12_after 10 (some .int), Cond.methodLink RX12 163 yX12_fewer, Cond.static yX12_fewer, Cond.code yX12_fewer cX12_fewer 7 (some .int)] : List Cond), w ∈ wsX12_may := fun _ h => (List.mem_cons_of_mem _ (List.mem_append_left _ h))
theorem lf_X12_may_2 : ∀ w ∈ wsX120, w ∈ wsX12_may := fun _ h => (List.mem_cons_of_mem _ (List.mem_append_right _ h))
set_option maxRecDepth 20000 in
theorem ggX12_may_X12_isWeek : GoodIn wsX12_may wsX12_isWeek := (gd_cons (lf_X12_may_1 _ (List.mem_of_getElem? (i := 4) rfl)) rfl (goodIn_app (gd_cons (lf_X12_may_1 _ (List.mem_of_getElem? (i := 5) rfl)) rfl (gd_cons (lf_X12_may_1 _ (List.mem_of_getElem? (i := 6) rfl)) rfl (gd_cons (lf_X12_may_1 _ (List.mem_of_getElem? (i := 7) rfl)) rfl (gd_cons (lf_X12_may_1 _ (List.mem_of_getElem? (i := 3) rfl)) rfl (gd_cons (lf_X12_may_1 _ (List.mem_of_getElem? (i := 8) rfl)) rfl (gd_nil _)))))) (goodIn_sub lf_X12_may_2 ga_wsX120)))
set_option maxRecDepth 20000 in
theorem gX12_may_X12_isWeek : GoodIn wsX12_may (wsV RX12 152 RX12 yX12_isWeek wsX12_isWeek) := goodIn_app (gd_cons (lf_X12_may_1 _ (List.mem_of_getElem? (i := 0) rfl)) rfl (gd_cons (lf_X12_may_1 _ (List.mem_of_getElem? (i := 1) rfl)) rfl (gd_cons (lf_X12_may_1 _ (List.mem_of_getElem? (i := 2) rfl)) rfl (gd_cons (lf_X12_may_1 _ (List.mem_of_getElem? (i := 3) rfl)) rfl (gd_nil _))))) ggX12_may_X12_isWeek
set_option maxRecDepth 20000 in
theorem ggX12_may_X12_isHands : GoodIn wsX12_may wsX12_isHands := (gd_cons (lf_X12_may_1 _ (List.mem_of_getElem? (i := 12) rfl)) rfl (goodIn_app (gd_cons (lf_X12_may_1 _ (List.mem_of_getElem? (i := 13) rfl)) rfl (gd_cons (lf_X12_may_1 _ (List.mem_of_getElem? (i := 5) rfl)) rfl (gd_cons (lf_X12_may_1 _ (List.mem_of_getElem? (i := 6) rfl)) rfl (gd_cons (lf_X12_may_1 _ (List.mem_of_getElem? (i := 7) rfl)) rfl (gd_cons (lf_X12_may_1 _ (List.mem_of_getElem? (i := 3) rfl)) rfl (gd_cons (lf_X12_may_1 _ (List.mem_of_getElem? (i := 8) rfl)) rfl (gd_cons (lf_X12_may_1 _ (List.mem_of_getElem? (i := 14) rfl)) rfl (gd_cons (lf_X12_may_1 _ (List.mem_of_getElem? (i := 15) rfl)) rfl (gd_cons (lf_X12_may_1 _ (List.mem_of_getElem? (i := 16) rfl)) rfl (gd_nil _)))))))))) (goodIn_sub lf_X12_may_2 ga_wsX120)))
set_option maxRecDepth 20000 in
theorem gX12_may_X12_isHands : GoodIn wsX12_may (wsV RX12 171 RX12 yX12_isHands wsX12_isHands) := goodIn_app (gd_cons (lf_X12_may_1 _ (List.mem_of_getElem? (i := 9) rfl)) rfl (gd_cons (lf_X12_may_1 _ (List.mem_of_getElem? (i := 10) rfl)) rfl (gd_cons (lf_X12_may_1 _ (List.mem_of_getElem? (i := 11) rfl)) rfl (gd_cons (lf_X12_may_1 _ (List.mem_of_getElem? (i := 3) rfl)) rfl (gd_nil _))))) ggX12_may_X12_isHands
set_option maxRecDepth 20000 in
theorem ggX12_may_X12_after : GoodIn wsX12_may wsX12_after := (gd_cons (lf_X12_may_1 _ (List.mem_of_getElem? (i := 20) rfl)) rfl (goodIn_app (gd_cons (lf_X12_may_1 _ (List.mem_of_getElem? (i := 5) rfl)) rfl (gd_cons (lf_X12_may_1 _ (List.mem_of_getElem? (i := 14) rfl)) rfl (gd_cons (lf_X12_may_1 _ (List.mem_of_getElem? (i := 15) rfl)) rfl (gd_cons (lf_X12_may_1 _ (List.mem_of_getElem? (i := 3) rfl)) rfl (gd_cons (lf_X12_may_1 _ (List.mem_of_getElem? (i := 16) rfl)) rfl (gd_cons (lf_X12_may_1 _ (List.mem_of_getElem? (i := 21) rfl)) rfl (gd_cons (lf_X12_may_1 _ (List.mem_of_getElem? (i := 22) rfl)) rfl (gd_cons (lf_X12_may_1 _ (List.mem_of_getElem? (i := 23) rfl)) rfl (gd_nil _))))))))) (goodIn_sub lf_X12_may_2 ga_wsX120)))
set_option maxRecDepth 20000 in
theorem gX12_may_X12_after : GoodIn wsX12_may (wsV RX12 174 RX12 yX12_after wsX12_after) := goodIn_app (gd_cons (lf_X12_may_1 _ (List.mem_of_getElem? (i := 17) rfl)) rfl (gd_cons (lf_X12_may_1 _ (List.mem_of_getElem? (i := 18) rfl)) rfl (gd_cons (lf_X12_may_1 _ (List.mem_of_getElem? (i := 19) rfl)) rfl (gd_cons (lf_X12_may_1 _ (List.mem_of_getElem? (i := 3) rfl)) rfl (gd_nil _))))) ggX12_may_X12_after
theorem dX12_may_0 : decode cX12_may 0 = .ok (.aload_n 0, 1) := dq_42 (dst 0 rd_prog_14_method_31_code_0 rfl)
theorem dX12_may_1 : decode cX12_may 1 = .ok (.iload_n 1, 1) := dq_27 (dst 1 rd_prog_14_method_31_code_0 rfl)
theorem dX12_may_2 : decode cX12_may 2 = .ok (.invokevirtual 152, 3) := dq_182 (dst 2 rd_prog_14_method_31_code_0 rfl) rfl
theorem dX12_may_5 : decode cX12_may 5 = .ok (.ifCond .ne 5, 3) := dq_154 (dst 5 rd_prog_14_method_31_code_0 rfl) (by decide +kernel)
theorem dX12_may_8 : decode cX12_may 8 = .ok (.iconst (-1), 1) := dq_2 (dst 8 rd_prog_14_method_31_code_0 rfl)
theorem dX12_may_9 : decode cX12_may 9 = .ok (.ireturn, 1) := dq_172 (dst 9 rd_prog_14_method_31_code_0 rfl)
theorem dX12_may_10 : decode cX12_may 10 = .ok (.aload_n 0, 1) := dq_42 (dst 10 rd_prog_14_method_31_code_0 rfl)
theorem dX12_may_11 : decode cX12_may 11 = .ok (.iload_n 2, 1) := dq_28 (dst 11 rd_prog_14_method_31_code_0 rfl)
theorem dX12_may_12 : decode cX12_may 12 = .ok (.invokevirtual 171, 3) := dq_182 (dst 12 rd_prog_14_method_31_code_0 rfl) rfl
theorem dX12_may_15 : decode cX12_may 15 = .ok (.ifCond .eq 7, 3) := dq_153 (dst 15 rd_prog_14_method_31_code_0 rfl) (by decide +kernel)
theorem dX12_may_18 : decode cX12_may 18 = .ok (.iload_n 3, 1) := dq_29 (dst 18 rd_prog_14_method_31_code_0 rfl)
theorem dX12_may_19 : decode cX12_may 19 = .ok (.ifCond .ge 8, 3) := dq_156 (dst 19 rd_prog_14_method_31_code_0 rfl) (by decide +kernel)
theorem dX12_may_22 : decode cX12_may 22 = .ok (.bipush (-2), 2) := dq_16 (dst 22 rd_prog_14_method_31_code_0 rfl) (by decide +kernel)
theorem dX12_may_24 : decode cX12_may 24 = .ok (.goto 20, 3) := dq_167 (dst 24 rd_prog_14_method_31_code_0 rfl) (by decide +kernel)
theorem dX12_may_27 : decode cX12_may 27 = .ok (.aload_n 0, 1) := dq_42 (dst 27 rd_prog_14_method_31_code_0 rfl)
theorem dX12_may_28 : decode cX12_may 28 = .ok (.iload_n 1, 1) := dq_27 (dst 28 rd_prog_14_method_31_code_0 rfl)
theorem dX12_may_29 : decode cX12_may 29 = .ok (.iload_n 2, 1) := dq_28 (dst 29 rd_prog_14_method_31_code_0 rfl)
theorem dX12_may_30 : decode cX12_may 30 = .ok (.iload_n 3, 1) := dq_29 (dst 30 rd_prog_14_method_31_code_0 rfl)
theorem dX12_may_31 : decode cX12_may 31 = .ok (.invokevirtual 174, 3) := dq_182 (dst 31 rd_prog_14_method_31_code_0 rfl) rfl
theorem dX12_may_34 : decode cX12_may 34 = .ok (.bipush (-9), 2) := dq_16 (dst 2 rd_prog_14_method_31_code_1 rfl) (by decide +kernel)
theorem dX12_may_36 : decode cX12_may 36 = .ok (.if_icmp .ne 7, 3) := dq_160 (dst 4 rd_prog_14_method_31_code_1 rfl) (by decide +kernel)
theorem dX12_may_39 : decode cX12_may 39 = .ok (.iconst 0, 1) := dq_3 (dst 7 rd_prog_14_method_31_code_1 rfl)
theorem dX12_may_40 : decode cX12_may 40 = .ok (.goto 4, 3) := dq_167 (dst 8 rd_prog_14_method_31_code_1 rfl) (by decide +kernel)
theorem dX12_may_43 : decode cX12_may 43 = .ok (.iconst 1, 1) := dq_4 (dst 11 rd_prog_14_method_31_code_1 rfl)
theorem dX12_may_44 : decode cX12_may 44 = .ok (.ireturn, 1) := dq_172 (dst 12 rd_prog_14_method_31_code_1 rfl)
theorem lf_X12_then_1 : ∀ w ∈ ([Cond.methodLink RX12 152 yX12_isWeek, Cond.instanceMethod yX12_isWeek, Cond.selects RX12 yX12_isWeek yX12_isWeek, Cond.initialized RX12, Cond.code yX12_isWeek cX12_isWeek 2 (some .boolean), Cond.fieldLink RX12 13 "StillInAugustModel" "house" "[I", Cond.methodLink RX12 73 yX12_in, Cond.static yX12_in, Cond.code yX12_in cX12_in 6 (some .boolean), Cond.methodLink RX12 171 yX12_isHands, Cond.instanceMethod yX12_isHands, Cond.selects RX12 yX12_isHands yX12_isHands, Cond.code yX12_isHands cX12_isHands 2 (some .boolean), Cond.constantLong RX12 158 (999), Cond.methodLink RX12 160 yX12_all, Cond.static yX12_all, Cond.code yX12_all cX12_all 1 (some .int), Cond.methodLink RX12 174 yX12_after, Cond.instanceMethod yX12_after, Cond.selects RX12 yX12_after yX12_after, Cond.code yX12_after cX12_after 10 (some .int), Cond.methodLink RX12 163 yX12_fewer, Cond.static yX12_fewer, Cond.code yX12_fewer cX12_fewer 7 (some .int)] : List Cond), w ∈ wsX12_then := fun _ h => (List.mem_cons_of_mem _ (List.mem_append_left _ h))
theorem lf_X12_then_2 : ∀ w ∈ wsX120, w ∈ wsX12_then := fun _ h => (List.mem_cons_of_mem _ (List.mem_append_right _ h))
set_option maxRecDepth 20000 in
theorem ggX12_then_X12_isWeek : GoodIn wsX12_then wsX12_isWeek := (gd_cons (lf_X12_then_1 _ (List.mem_of_getElem? (i := 4) rfl)) rfl (goodIn_app (gd_cons (lf_X12_then_1 _ (List.mem_of_getElem? (i := 5) rfl)) rfl (gd_cons (lf_X12_then_1 _ (List.mem_of_getElem? (i := 6) rfl)) rfl (gd_cons (lf_X12_then_1 _ (List.mem_of_getElem? (i := 7) rfl)) rfl (gd_cons (lf_X12_then_1 _ (List.mem_of_getElem? (i := 3) rfl)) rfl (gd_cons (lf_X12_then_1 _ (List.mem_of_getElem? (i := 8) rfl)) rfl (gd_nil _)))))) (goodIn_sub lf_X12_then_2 ga_wsX120)))
set_option maxRecDepth 20000 in
theorem gX12_then_X12_isWeek : GoodIn wsX12_then (wsV RX12 152 RX12 yX12_isWeek wsX12_isWeek) := goodIn_app (gd_cons (lf_X12_then_1 _ (List.mem_of_getElem? (i := 0) rfl)) rfl (gd_cons (lf_X12_then_1 _ (List.mem_of_getElem? (i := 1) rfl)) rfl (gd_cons (lf_X12_then_1 _ (List.mem_of_getElem? (i := 2) rfl)) rfl (gd_cons (lf_X12_then_1 _ (List.mem_of_getElem? (i := 3) rfl)) rfl (gd_nil _))))) ggX12_then_X12_isWeek
set_option maxRecDepth 20000 in
theorem ggX12_then_X12_isHands : GoodIn wsX12_then wsX12_isHands := (gd_cons (lf_X12_then_1 _ (List.mem_of_getElem? (i := 12) rfl)) rfl (goodIn_app (gd_cons (lf_X12_then_1 _ (List.mem_of_getElem? (i := 13) rfl)) rfl (gd_cons (lf_X12_then_1 _ (List.mem_of_getElem? (i := 5) rfl)) rfl (gd_cons (lf_X12_then_1 _ (List.mem_of_getElem? (i := 6) rfl)) rfl (gd_cons (lf_X12_then_1 _ (List.mem_of_getElem? (i := 7) rfl)) rfl (gd_cons (lf_X12_then_1 _ (List.mem_of_getElem? (i := 3) rfl)) rfl (gd_cons (lf_X12_then_1 _ (List.mem_of_getElem? (i := 8) rfl)) rfl (gd_cons (lf_X12_then_1 _ (List.mem_of_getElem? (i := 14) rfl)) rfl (gd_cons (lf_X12_then_1 _ (List.mem_of_getElem? (i := 15) rfl)) rfl (gd_cons (lf_X12_then_1 _ (List.mem_of_getElem? (i := 16) rfl)) rfl (gd_nil _)))))))))) (goodIn_sub lf_X12_then_2 ga_wsX120)))
set_option maxRecDepth 20000 in
theorem gX12_then_X12_isHands : GoodIn wsX12_then (wsV RX12 171 RX12 yX12_isHands wsX12_isHands) := goodIn_app (gd_cons (lf_X12_then_1 _ (List.mem_of_getElem? (i := 9) rfl)) rfl (gd_cons (lf_X12_then_1 _ (List.mem_of_getElem? (i := 10) rfl)) rfl (gd_cons (lf_X12_then_1 _ (List.mem_of_getElem? (i := 11) rfl)) rfl (gd_cons (lf_X12_then_1 _ (List.mem_of_getElem? (i := 3) rfl)) rfl (gd_nil _))))) ggX12_then_X12_isHands
set_option maxRecDepth 20000 in
theorem ggX12_then_X12_after : GoodIn wsX12_then wsX12_after := (gd_cons (lf_X12_then_1 _ (List.mem_of_getElem? (i := 20) rfl)) rfl (goodIn_app (gd_cons (lf_X12_then_1 _ (List.mem_of_getElem? (i := 5) rfl)) rfl (gd_cons (lf_X12_then_1 _ (List.mem_of_getElem? (i := 14) rfl)) rfl (gd_cons (lf_X12_then_1 _ (List.mem_of_getElem? (i := 15) rfl)) rfl (gd_cons (lf_X12_then_1 _ (List.mem_of_getElem? (i := 3) rfl)) rfl (gd_cons (lf_X12_then_1 _ (List.mem_of_getElem? (i := 16) rfl)) rfl (gd_cons (lf_X12_then_1 _ (List.mem_of_getElem? (i := 21) rfl)) rfl (gd_cons (lf_X12_then_1 _ (List.mem_of_getElem? (i := 22) rfl)) rfl (gd_cons (lf_X12_then_1 _ (List.mem_of_getElem? (i := 23) rfl)) rfl (gd_nil _))))))))) (goodIn_sub lf_X12_then_2 ga_wsX120)))
set_option maxRecDepth 20000 in
theorem gX12_then_X12_after : GoodIn wsX12_then (wsV RX12 174 RX12 yX12_after wsX12_after) := goodIn_app (gd_cons (lf_X12_then_1 _ (List.mem_of_getElem? (i := 17) rfl)) rfl (gd_cons (lf_X12_then_1 _ (List.mem_of_getElem? (i := 18) rfl)) rfl (gd_cons (lf_X12_then_1 _ (List.mem_of_getElem? (i := 19) rfl)) rfl (gd_cons (lf_X12_then_1 _ (List.mem_of_getElem? (i := 3) rfl)) rfl (gd_nil _))))) ggX12_then_X12_after
theorem dX12_then_0 : decode cX12_then 0 = .ok (.aload_n 0, 1) := dq_42 (dst 0 rd_prog_14_method_32_code_0 rfl)
theorem dX12_then_1 : decode cX12_then 1 = .ok (.iload_n 1, 1) := dq_27 (dst 1 rd_prog_14_method_32_code_0 rfl)
theorem dX12_then_2 : decode cX12_then 2 = .ok (.invokevirtual 152, 3) := dq_182 (dst 2 rd_prog_14_method_32_code_0 rfl) rfl
theorem dX12_then_5 : decode cX12_then 5 = .ok (.ifCond .ne 5, 3) := dq_154 (dst 5 rd_prog_14_method_32_code_0 rfl) (by decide +kernel)
theorem dX12_then_8 : decode cX12_then 8 = .ok (.iconst (-1), 1) := dq_2 (dst 8 rd_prog_14_method_32_code_0 rfl)
theorem dX12_then_9 : decode cX12_then 9 = .ok (.ireturn, 1) := dq_172 (dst 9 rd_prog_14_method_32_code_0 rfl)
theorem dX12_then_10 : decode cX12_then 10 = .ok (.aload_n 0, 1) := dq_42 (dst 10 rd_prog_14_method_32_code_0 rfl)
theorem dX12_then_11 : decode cX12_then 11 = .ok (.iload_n 2, 1) := dq_28 (dst 11 rd_prog_14_method_32_code_0 rfl)
theorem dX12_then_12 : decode cX12_then 12 = .ok (.invokevirtual 171, 3) := dq_182 (dst 12 rd_prog_14_method_32_code_0 rfl) rfl
theorem dX12_then_15 : decode cX12_then 15 = .ok (.ifCond .eq 7, 3) := dq_153 (dst 15 rd_prog_14_method_32_code_0 rfl) (by decide +kernel)
theorem dX12_then_18 : decode cX12_then 18 = .ok (.iload_n 3, 1) := dq_29 (dst 18 rd_prog_14_method_32_code_0 rfl)
theorem dX12_then_19 : decode cX12_then 19 = .ok (.ifCond .ge 6, 3) := dq_156 (dst 19 rd_prog_14_method_32_code_0 rfl) (by decide +kernel)
theorem dX12_then_22 : decode cX12_then 22 = .ok (.bipush (-2), 2) := dq_16 (dst 22 rd_prog_14_method_32_code_0 rfl) (by decide +kernel)
theorem dX12_then_24 : decode cX12_then 24 = .ok (.ireturn, 1) := dq_172 (dst 24 rd_prog_14_method_32_code_0 rfl)
theorem dX12_then_25 : decode cX12_then 25 = .ok (.aload_n 0, 1) := dq_42 (dst 25 rd_prog_14_method_32_code_0 rfl)
theorem dX12_then_26 : decode cX12_then 26 = .ok (.iload_n 1, 1) := dq_27 (dst 26 rd_prog_14_method_32_code_0 rfl)
theorem dX12_then_27 : decode cX12_then 27 = .ok (.iload_n 2, 1) := dq_28 (dst 27 rd_prog_14_method_32_code_0 rfl)
theorem dX12_then_28 : decode cX12_then 28 = .ok (.iload_n 3, 1) := dq_29 (dst 28 rd_prog_14_method_32_code_0 rfl)
theorem dX12_then_29 : decode cX12_then 29 = .ok (.invokevirtual 174, 3) := dq_182 (dst 29 rd_prog_14_method_32_code_0 rfl) rfl
theorem dX12_then_32 : decode cX12_then 32 = .ok (.istore 4, 2) := dq_54 (dst 0 rd_prog_14_method_32_code_1 rfl) rfl
theorem dX12_then_34 : decode cX12_then 34 = .ok (.iload 4, 2) := dq_21 (dst 2 rd_prog_14_method_32_code_1 rfl) rfl
theorem dX12_then_36 : decode cX12_then 36 = .ok (.bipush (-9), 2) := dq_16 (dst 4 rd_prog_14_method_32_code_1 rfl) (by decide +kernel)
theorem dX12_then_38 : decode cX12_then 38 = .ok (.if_icmp .ne 8, 3) := dq_160 (dst 6 rd_prog_14_method_32_code_1 rfl) (by decide +kernel)
theorem dX12_then_41 : decode cX12_then 41 = .ok (.bipush (-3), 2) := dq_16 (dst 9 rd_prog_14_method_32_code_1 rfl) (by decide +kernel)
theorem dX12_then_43 : decode cX12_then 43 = .ok (.goto 5, 3) := dq_167 (dst 11 rd_prog_14_method_32_code_1 rfl) (by decide +kernel)
theorem dX12_then_46 : decode cX12_then 46 = .ok (.iload 4, 2) := dq_21 (dst 14 rd_prog_14_method_32_code_1 rfl) rfl
theorem dX12_then_48 : decode cX12_then 48 = .ok (.ireturn, 1) := dq_172 (dst 16 rd_prog_14_method_32_code_1 rfl)
theorem lf_X12_costs_1 : ∀ w ∈ wsX12_costs_r1, w ∈ wsX12_costs := fun _ h => (List.mem_cons_of_mem _ (List.mem_append_left _ (List.mem_append_left _ h)))
theorem lf_X12_costs_2 : ∀ w ∈ wsX12_costs_r2, w ∈ wsX12_costs := fun _ h => (List.mem_cons_of_mem _ (List.mem_append_left _ (List.mem_append_right _ h)))
theorem lf_X12_costs_3 : ∀ w ∈ wsX120, w ∈ wsX12_costs := fun _ h => (List.mem_cons_of_mem _ (List.mem_append_right _ h))
set_option maxRecDepth 20000 in
theorem ggX12_costs_X12_isWeek : GoodIn wsX12_costs wsX12_isWeek := (gd_cons (lf_X12_costs_1 _ (List.mem_of_getElem? (i := 4) rfl)) rfl (goodIn_app (gd_cons (lf_X12_costs_1 _ (List.mem_of_getElem? (i := 5) rfl)) rfl (gd_cons (lf_X12_costs_1 _ (List.mem_of_getElem? (i := 6) rfl)) rfl (gd_cons (lf_X12_costs_1 _ (List.mem_of_getElem? (i := 7) rfl)) rfl (gd_cons (lf_X12_costs_1 _ (List.mem_of_getElem? (i := 3) rfl)) rfl (gd_cons (lf_X12_costs_1 _ (List.mem_of_getElem? (i := 8) rfl)) rfl (gd_nil _)))))) (goodIn_sub lf_X12_costs_3 ga_wsX120)))
set_option maxRecDepth 20000 in
theorem gX12_costs_X12_isWeek : GoodIn wsX12_costs (wsV RX12 152 RX12 yX12_isWeek wsX12_isWeek) := goodIn_app (gd_cons (lf_X12_costs_1 _ (List.mem_of_getElem? (i := 0) rfl)) rfl (gd_cons (lf_X12_costs_1 _ (List.mem_of_getElem? (i := 1) rfl)) rfl (gd_cons (lf_X12_costs_1 _ (List.mem_of_getElem? (i := 2) rfl)) rfl (gd_cons (lf_X12_costs_1 _ (List.mem_of_getElem? (i := 3) rfl)) rfl (gd_nil _))))) ggX12_costs_X12_isWeek
set_option maxRecDepth 20000 in
theorem ggX12_costs_X12_isHands : GoodIn wsX12_costs wsX12_isHands := (gd_cons (lf_X12_costs_1 _ (List.mem_of_getElem? (i := 12) rfl)) rfl (goodIn_app (gd_cons (lf_X12_costs_1 _ (List.mem_of_getElem? (i := 13) rfl)) rfl (gd_cons (lf_X12_costs_1 _ (List.mem_of_getElem? (i := 5) rfl)) rfl (gd_cons (lf_X12_costs_1 _ (List.mem_of_getElem? (i := 6) rfl)) rfl (gd_cons (lf_X12_costs_1 _ (List.mem_of_getElem? (i := 7) rfl)) rfl (gd_cons (lf_X12_costs_1 _ (List.mem_of_getElem? (i := 3) rfl)) rfl (gd_cons (lf_X12_costs_1 _ (List.mem_of_getElem? (i := 8) rfl)) rfl (gd_cons (lf_X12_costs_1 _ (List.mem_of_getElem? (i := 14) rfl)) rfl (gd_cons (lf_X12_costs_1 _ (List.mem_of_getElem? (i := 15) rfl)) rfl (gd_cons (lf_X12_costs_1 _ (List.mem_of_getElem? (i := 16) rfl)) rfl (gd_nil _)))))))))) (goodIn_sub lf_X12_costs_3 ga_wsX120)))
set_option maxRecDepth 20000 in
theorem gX12_costs_X12_isHands : GoodIn wsX12_costs (wsV RX12 171 RX12 yX12_isHands wsX12_isHands) := goodIn_app (gd_cons (lf_X12_costs_1 _ (List.mem_of_getElem? (i := 9) rfl)) rfl (gd_cons (lf_X12_costs_1 _ (List.mem_of_getElem? (i := 10) rfl)) rfl (gd_cons (lf_X12_costs_1 _ (List.mem_of_getElem? (i := 11) rfl)) rfl (gd_cons (lf_X12_costs_1 _ (List.mem_of_getElem? (i := 3) rfl)) rfl (gd_nil _))))) ggX12_costs_X12_isHands
set_option maxRecDepth 20000 in
theorem ggX12_costs_X12_isComing : GoodIn wsX12_costs wsX12_isComing := (gd_cons (lf_X12_costs_1 _ (List.mem_of_getElem? (i := 20) rfl)) rfl (goodIn_app (gd_cons (lf_X12_costs_1 _ (List.mem_of_getElem? (i := 5) rfl)) rfl (gd_cons (lf_X12_costs_1 _ (List.mem_of_getElem? (i := 21) rfl)) rfl (gd_cons (lf_X12_costs_1 _ (List.mem_of_getElem? (i := 6) rfl)) rfl (gd_cons (lf_X12_costs_1 _ (List.mem_of_getElem? (i := 7) rfl)) rfl (gd_cons (lf_X12_costs_1 _ (List.mem_of_getElem? (i := 3) rfl)) rfl (gd_cons (lf_X12_costs_1 _ (List.mem_of_getElem? (i := 8) rfl)) rfl (gd_nil _))))))) (goodIn_sub lf_X12_costs_3 ga_wsX120)))
set_option maxRecDepth 20000 in
theorem gX12_costs_X12_isComing : GoodIn wsX12_costs (wsV RX12 178 RX12 yX12_isComing wsX12_isComing) := goodIn_app (gd_cons (lf_X12_costs_1 _ (List.mem_of_getElem? (i := 17) rfl)) rfl (gd_cons (lf_X12_costs_1 _ (List.mem_of_getElem? (i := 18) rfl)) rfl (gd_cons (lf_X12_costs_1 _ (List.mem_of_getElem? (i := 19) rfl)) rfl (gd_cons (lf_X12_costs_1 _ (List.mem_of_getElem? (i := 3) rfl)) rfl (gd_nil _))))) ggX12_costs_X12_isComing
set_option maxRecDepth 20000 in
theorem ggX12_costs_X12_after : GoodIn wsX12_costs wsX12_after := (gd_cons (lf_X12_costs_2 _ (List.mem_of_getElem? (i := 1) rfl)) rfl (goodIn_app (gd_cons (lf_X12_costs_1 _ (List.mem_of_getElem? (i := 5) rfl)) rfl (gd_cons (lf_X12_costs_1 _ (List.mem_of_getElem? (i := 14) rfl)) rfl (gd_cons (lf_X12_costs_1 _ (List.mem_of_getElem? (i := 15) rfl)) rfl (gd_cons (lf_X12_costs_1 _ (List.mem_of_getElem? (i := 3) rfl)) rfl (gd_cons (lf_X12_costs_1 _ (List.mem_of_getElem? (i := 16) rfl)) rfl (gd_cons (lf_X12_costs_2 _ (List.mem_of_getElem? (i := 2) rfl)) rfl (gd_cons (lf_X12_costs_2 _ (List.mem_of_getElem? (i := 3) rfl)) rfl (gd_cons (lf_X12_costs_2 _ (List.mem_of_getElem? (i := 4) rfl)) rfl (gd_nil _))))))))) (goodIn_sub lf_X12_costs_3 ga_wsX120)))
set_option maxRecDepth 20000 in
theorem gX12_costs_X12_after : GoodIn wsX12_costs (wsV RX12 174 RX12 yX12_after wsX12_after) := goodIn_app (gd_cons (lf_X12_costs_1 _ (List.mem_of_getElem? (i := 22) rfl)) rfl (gd_cons (lf_X12_costs_1 _ (List.mem_of_getElem? (i := 23) rfl)) rfl (gd_cons (lf_X12_costs_2 _ (List.mem_of_getElem? (i := 0) rfl)) rfl (gd_cons (lf_X12_costs_1 _ (List.mem_of_getElem? (i := 3) rfl)) rfl (gd_nil _))))) ggX12_costs_X12_after
set_option maxRecDepth 20000 in
theorem ggX12_costs_X12_costOf : GoodIn wsX12_costs wsX12_costOf := (gd_cons (lf_X12_costs_2 _ (List.mem_of_getElem? (i := 8) rfl)) rfl (goodIn_app (gd_cons (lf_X12_costs_1 _ (List.mem_of_getElem? (i := 5) rfl)) rfl (gd_cons (lf_X12_costs_2 _ (List.mem_of_getElem? (i := 9) rfl)) rfl (gd_cons (lf_X12_costs_2 _ (List.mem_of_getElem? (i := 10) rfl)) rfl (gd_cons (lf_X12_costs_2 _ (List.mem_of_getElem? (i := 11) rfl)) rfl (gd_cons (lf_X12_costs_1 _ (List.mem_of_getElem? (i := 3) rfl)) rfl (gd_cons (lf_X12_costs_2 _ (List.mem_of_getElem? (i := 12) rfl)) rfl (gd_cons (lf_X12_costs_1 _ (List.mem_of_getElem? (i := 14) rfl)) rfl (gd_cons (lf_X12_costs_1 _ (List.mem_of_getElem? (i := 15) rfl)) rfl (gd_cons (lf_X12_costs_1 _ (List.mem_of_getElem? (i := 16) rfl)) rfl (gd_nil _)))))))))) (goodIn_sub lf_X12_costs_3 ga_wsX120)))
set_option maxRecDepth 20000 in
theorem gX12_costs_X12_costOf : GoodIn wsX12_costs (wsV RX12 181 RX12 yX12_costOf wsX12_costOf) := goodIn_app (gd_cons (lf_X12_costs_2 _ (List.mem_of_getElem? (i := 5) rfl)) rfl (gd_cons (lf_X12_costs_2 _ (List.mem_of_getElem? (i := 6) rfl)) rfl (gd_cons (lf_X12_costs_2 _ (List.mem_of_getElem? (i := 7) rfl)) rfl (gd_cons (lf_X12_costs_1 _ (List.mem_of_getElem? (i := 3) rfl)) rfl (gd_nil _))))) ggX12_costs_X12_costOf
theorem dX12_costs_0 : decode cX12_costs 0 = .ok (.aload_n 0, 1) := dq_42 (dst 0 rd_prog_14_method_33_code_0 rfl)
theorem dX12_costs_1 : decode cX12_costs 1 = .ok (.iload_n 1, 1) := dq_27 (dst 1 rd_prog_14_method_33_code_0 rfl)
theorem dX12_costs_2 : decode cX12_costs 2 = .ok (.invokevirtual 152, 3) := dq_182 (dst 2 rd_prog_14_method_33_code_0 rfl) rfl
theorem dX12_costs_5 : decode cX12_costs 5 = .ok (.ifCond .ne 5, 3) := dq_154 (dst 5 rd_prog_14_method_33_code_0 rfl) (by decide +kernel)
theorem dX12_costs_8 : decode cX12_costs 8 = .ok (.iconst (-1), 1) := dq_2 (dst 8 rd_prog_14_method_33_code_0 rfl)
theorem dX12_costs_9 : decode cX12_costs 9 = .ok (.ireturn, 1) := dq_172 (dst 9 rd_prog_14_method_33_code_0 rfl)
theorem dX12_costs_10 : decode cX12_costs 10 = .ok (.aload_n 0, 1) := dq_42 (dst 10 rd_prog_14_method_33_code_0 rfl)
theorem dX12_costs_11 : decode cX12_costs 11 = .ok (.iload_n 2, 1) := dq_28 (dst 11 rd_prog_14_method_33_code_0 rfl)
theorem dX12_costs_12 : decode cX12_costs 12 = .ok (.invokevirtual 171, 3) := dq_182 (dst 12 rd_prog_14_method_33_code_0 rfl) rfl
theorem dX12_costs_15 : decode cX12_costs 15 = .ok (.ifCond .eq 16, 3) := dq_153 (dst 15 rd_prog_14_method_33_code_0 rfl) (by decide +kernel)
theorem dX12_costs_18 : decode cX12_costs 18 = .ok (.aload_n 0, 1) := dq_42 (dst 18 rd_prog_14_method_33_code_0 rfl)
theorem dX12_costs_19 : decode cX12_costs 19 = .ok (.iload_n 3, 1) := dq_29 (dst 19 rd_prog_14_method_33_code_0 rfl)
theorem dX12_costs_20 : decode cX12_costs 20 = .ok (.invokevirtual 178, 3) := dq_182 (dst 20 rd_prog_14_method_33_code_0 rfl) rfl
theorem dX12_costs_23 : decode cX12_costs 23 = .ok (.ifCond .eq 8, 3) := dq_153 (dst 23 rd_prog_14_method_33_code_0 rfl) (by decide +kernel)
theorem dX12_costs_26 : decode cX12_costs 26 = .ok (.iload 4, 2) := dq_21 (dst 26 rd_prog_14_method_33_code_0 rfl) rfl
theorem dX12_costs_28 : decode cX12_costs 28 = .ok (.ifCond .ge 6, 3) := dq_156 (dst 28 rd_prog_14_method_33_code_0 rfl) (by decide +kernel)
theorem dX12_costs_31 : decode cX12_costs 31 = .ok (.bipush (-2), 2) := dq_16 (dst 31 rd_prog_14_method_33_code_0 rfl) (by decide +kernel)
theorem dX12_costs_33 : decode cX12_costs 33 = .ok (.ireturn, 1) := dq_172 (dst 1 rd_prog_14_method_33_code_1 rfl)
theorem dX12_costs_34 : decode cX12_costs 34 = .ok (.aload_n 0, 1) := dq_42 (dst 2 rd_prog_14_method_33_code_1 rfl)
theorem dX12_costs_35 : decode cX12_costs 35 = .ok (.iload_n 1, 1) := dq_27 (dst 3 rd_prog_14_method_33_code_1 rfl)
theorem dX12_costs_36 : decode cX12_costs 36 = .ok (.iload_n 2, 1) := dq_28 (dst 4 rd_prog_14_method_33_code_1 rfl)
theorem dX12_costs_37 : decode cX12_costs 37 = .ok (.iload 4, 2) := dq_21 (dst 5 rd_prog_14_method_33_code_1 rfl) rfl
theorem dX12_costs_39 : decode cX12_costs 39 = .ok (.invokevirtual 174, 3) := dq_182 (dst 7 rd_prog_14_method_33_code_1 rfl) rfl
theorem dX12_costs_42 : decode cX12_costs 42 = .ok (.istore 5, 2) := dq_54 (dst 10 rd_prog_14_method_33_code_1 rfl) rfl
theorem dX12_costs_44 : decode cX12_costs 44 = .ok (.iload 5, 2) := dq_21 (dst 12 rd_prog_14_method_33_code_1 rfl) rfl
theorem dX12_costs_46 : decode cX12_costs 46 = .ok (.bipush (-9), 2) := dq_16 (dst 14 rd_prog_14_method_33_code_1 rfl) (by decide +kernel)
theorem dX12_costs_48 : decode cX12_costs 48 = .ok (.if_icmp .ne 8, 3) := dq_160 (dst 16 rd_prog_14_method_33_code_1 rfl) (by decide +kernel)
theorem dX12_costs_51 : decode cX12_costs 51 = .ok (.bipush (-3), 2) := dq_16 (dst 19 rd_prog_14_method_33_code_1 rfl) (by decide +kernel)
theorem dX12_costs_53 : decode cX12_costs 53 = .ok (.goto 13, 3) := dq_167 (dst 21 rd_prog_14_method_33_code_1 rfl) (by decide +kernel)
theorem dX12_costs_56 : decode cX12_costs 56 = .ok (.aload_n 0, 1) := dq_42 (dst 24 rd_prog_14_method_33_code_1 rfl)
theorem dX12_costs_57 : decode cX12_costs 57 = .ok (.iload_n 1, 1) := dq_27 (dst 25 rd_prog_14_method_33_code_1 rfl)
theorem dX12_costs_58 : decode cX12_costs 58 = .ok (.iload 5, 2) := dq_21 (dst 26 rd_prog_14_method_33_code_1 rfl) rfl
theorem dX12_costs_60 : decode cX12_costs 60 = .ok (.iload_n 3, 1) := dq_29 (dst 28 rd_prog_14_method_33_code_1 rfl)
theorem dX12_costs_61 : decode cX12_costs 61 = .ok (.iload 4, 2) := dq_21 (dst 29 rd_prog_14_method_33_code_1 rfl) rfl
theorem dX12_costs_63 : decode cX12_costs 63 = .ok (.invokevirtual 181, 3) := dq_182 (dst 31 rd_prog_14_method_33_code_1 rfl) rfl
theorem dX12_costs_66 : decode cX12_costs 66 = .ok (.ireturn, 1) := dq_172 (dst 2 rd_prog_14_method_33_code_2 rfl)
theorem lf_X12_work_1 : ∀ w ∈ wsX12_work_r1, w ∈ wsX12_work := fun _ h => (List.mem_cons_of_mem _ (List.mem_append_left _ (List.mem_append_left _ h)))
theorem lf_X12_work_2 : ∀ w ∈ wsX12_work_r2, w ∈ wsX12_work := fun _ h => (List.mem_cons_of_mem _ (List.mem_append_left _ (List.mem_append_right _ h)))
theorem lf_X12_work_3 : ∀ w ∈ wsX120, w ∈ wsX12_work := fun _ h => (List.mem_cons_of_mem _ (List.mem_append_right _ h))
set_option maxRecDepth 20000 in
theorem ggX12_work_X12_isWeek : GoodIn wsX12_work wsX12_isWeek := (gd_cons (lf_X12_work_1 _ (List.mem_of_getElem? (i := 4) rfl)) rfl (goodIn_app (gd_cons (lf_X12_work_1 _ (List.mem_of_getElem? (i := 5) rfl)) rfl (gd_cons (lf_X12_work_1 _ (List.mem_of_getElem? (i := 6) rfl)) rfl (gd_cons (lf_X12_work_1 _ (List.mem_of_getElem? (i := 7) rfl)) rfl (gd_cons (lf_X12_work_1 _ (List.mem_of_getElem? (i := 3) rfl)) rfl (gd_cons (lf_X12_work_1 _ (List.mem_of_getElem? (i := 8) rfl)) rfl (gd_nil _)))))) (goodIn_sub lf_X12_work_3 ga_wsX120)))
set_option maxRecDepth 20000 in
theorem gX12_work_X12_isWeek : GoodIn wsX12_work (wsV RX12 152 RX12 yX12_isWeek wsX12_isWeek) := goodIn_app (gd_cons (lf_X12_work_1 _ (List.mem_of_getElem? (i := 0) rfl)) rfl (gd_cons (lf_X12_work_1 _ (List.mem_of_getElem? (i := 1) rfl)) rfl (gd_cons (lf_X12_work_1 _ (List.mem_of_getElem? (i := 2) rfl)) rfl (gd_cons (lf_X12_work_1 _ (List.mem_of_getElem? (i := 3) rfl)) rfl (gd_nil _))))) ggX12_work_X12_isWeek
set_option maxRecDepth 20000 in
theorem ggX12_work_X12_isHands : GoodIn wsX12_work wsX12_isHands := (gd_cons (lf_X12_work_1 _ (List.mem_of_getElem? (i := 12) rfl)) rfl (goodIn_app (gd_cons (lf_X12_work_1 _ (List.mem_of_getElem? (i := 13) rfl)) rfl (gd_cons (lf_X12_work_1 _ (List.mem_of_getElem? (i := 5) rfl)) rfl (gd_cons (lf_X12_work_1 _ (List.mem_of_getElem? (i := 6) rfl)) rfl (gd_cons (lf_X12_work_1 _ (List.mem_of_getElem? (i := 7) rfl)) rfl (gd_cons (lf_X12_work_1 _ (List.mem_of_getElem? (i := 3) rfl)) rfl (gd_cons (lf_X12_work_1 _ (List.mem_of_getElem? (i := 8) rfl)) rfl (gd_cons (lf_X12_work_1 _ (List.mem_of_getElem? (i := 14) rfl)) rfl (gd_cons (lf_X12_work_1 _ (List.mem_of_getElem? (i := 15) rfl)) rfl (gd_cons (lf_X12_work_1 _ (List.mem_of_getElem? (i := 16) rfl)) rfl (gd_nil _)))))))))) (goodIn_sub lf_X12_work_3 ga_wsX120)))
set_option maxRecDepth 20000 in
theorem gX12_work_X12_isHands : GoodIn wsX12_work (wsV RX12 171 RX12 yX12_isHands wsX12_isHands) := goodIn_app (gd_cons (lf_X12_work_1 _ (List.mem_of_getElem? (i := 9) rfl)) rfl (gd_cons (lf_X12_work_1 _ (List.mem_of_getElem? (i := 10) rfl)) rfl (gd_cons (lf_X12_work_1 _ (List.mem_of_getElem? (i := 11) rfl)) rfl (gd_cons (lf_X12_work_1 _ (List.mem_of_getElem? (i := 3) rfl)) rfl (gd_nil _))))) ggX12_work_X12_isHands
set_option maxRecDepth 20000 in
theorem ggX12_work_X12_isComing : GoodIn wsX12_work wsX12_isComing := (gd_cons (lf_X12_work_1 _ (List.mem_of_getElem? (i := 20) rfl)) rfl (goodIn_app (gd_cons (lf_X12_work_1 _ (List.mem_of_getElem? (i := 5) rfl)) rfl (gd_cons (lf_X12_work_1 _ (List.mem_of_getElem? (i := 21) rfl)) rfl (gd_cons (lf_X12_work_1 _ (List.mem_of_getElem? (i := 6) rfl)) rfl (gd_cons (lf_X12_work_1 _ (List.mem_of_getElem? (i := 7) rfl)) rfl (gd_cons (lf_X12_work_1 _ (List.mem_of_getElem? (i := 3) rfl)) rfl (gd_cons (lf_X12_work_1 _ (List.mem_of_getElem? (i := 8) rfl)) rfl (gd_nil _))))))) (goodIn_sub lf_X12_work_3 ga_wsX120)))
set_option maxRecDepth 20000 in
theorem gX12_work_X12_isComing : GoodIn wsX12_work (wsV RX12 178 RX12 yX12_isComing wsX12_isComing) := goodIn_app (gd_cons (lf_X12_work_1 _ (List.mem_of_getElem? (i := 17) rfl)) rfl (gd_cons (lf_X12_work_1 _ (List.mem_of_getElem? (i := 18) rfl)) rfl (gd_cons (lf_X12_work_1 _ (List.mem_of_getElem? (i := 19) rfl)) rfl (gd_cons (lf_X12_work_1 _ (List.mem_of_getElem? (i := 3) rfl)) rfl (gd_nil _))))) ggX12_work_X12_isComing
set_option maxRecDepth 20000 in
theorem ggX12_work_X12_after : GoodIn wsX12_work wsX12_after := (gd_cons (lf_X12_work_2 _ (List.mem_of_getElem? (i := 1) rfl)) rfl (goodIn_app (gd_cons (lf_X12_work_1 _ (List.mem_of_getElem? (i := 5) rfl)) rfl (gd_cons (lf_X12_work_1 _ (List.mem_of_getElem? (i := 14) rfl)) rfl (gd_cons (lf_X12_work_1 _ (List.mem_of_getElem? (i := 15) rfl)) rfl (gd_cons (lf_X12_work_1 _ (List.mem_of_getElem? (i := 3) rfl)) rfl (gd_cons (lf_X12_work_1 _ (List.mem_of_getElem? (i := 16) rfl)) rfl (gd_cons (lf_X12_work_2 _ (List.mem_of_getElem? (i := 2) rfl)) rfl (gd_cons (lf_X12_work_2 _ (List.mem_of_getElem? (i := 3) rfl)) rfl (gd_cons (lf_X12_work_2 _ (List.mem_of_getElem? (i := 4) rfl)) rfl (gd_nil _))))))))) (goodIn_sub lf_X12_work_3 ga_wsX120)))
set_option maxRecDepth 20000 in
theorem gX12_work_X12_after : GoodIn wsX12_work (wsV RX12 174 RX12 yX12_after wsX12_after) := goodIn_app (gd_cons (lf_X12_work_1 _ (List.mem_of_getElem? (i := 22) rfl)) rfl (gd_cons (lf_X12_work_1 _ (List.mem_of_getElem? (i := 23) rfl)) rfl (gd_cons (lf_X12_work_2 _ (List.mem_of_getElem? (i := 0) rfl)) rfl (gd_cons (lf_X12_work_1 _ (List.mem_of_getElem? (i := 3) rfl)) rfl (gd_nil _))))) ggX12_work_X12_after
set_option maxRecDepth 20000 in
theorem ggX12_work_X12_over : GoodIn wsX12_work wsX12_over := (gd_cons (lf_X12_work_2 _ (List.mem_of_getElem? (i := 8) rfl)) rfl (goodIn_app (gd_cons (lf_X12_work_1 _ (List.mem_of_getElem? (i := 5) rfl)) rfl (gd_nil _)) (goodIn_sub lf_X12_work_3 ga_wsX120)))
set_option maxRecDepth 20000 in
theorem gX12_work_X12_over : GoodIn wsX12_work (wsV RX12 167 RX12 yX12_over wsX12_over) := goodIn_app (gd_cons (lf_X12_work_2 _ (List.mem_of_getElem? (i := 5) rfl)) rfl (gd_cons (lf_X12_work_2 _ (List.mem_of_getElem? (i := 6) rfl)) rfl (gd_cons (lf_X12_work_2 _ (List.mem_of_getElem? (i := 7) rfl)) rfl (gd_cons (lf_X12_work_1 _ (List.mem_of_getElem? (i := 3) rfl)) rfl (gd_nil _))))) ggX12_work_X12_over
theorem dX12_work_0 : decode cX12_work 0 = .ok (.aload_n 0, 1) := dq_42 (dst 0 rd_prog_14_method_34_code_0 rfl)
theorem dX12_work_1 : decode cX12_work 1 = .ok (.iload_n 1, 1) := dq_27 (dst 1 rd_prog_14_method_34_code_0 rfl)
theorem dX12_work_2 : decode cX12_work 2 = .ok (.invokevirtual 152, 3) := dq_182 (dst 2 rd_prog_14_method_34_code_0 rfl) rfl
theorem dX12_work_5 : decode cX12_work 5 = .ok (.ifCond .ne 5, 3) := dq_154 (dst 5 rd_prog_14_method_34_code_0 rfl) (by decide +kernel)
theorem dX12_work_8 : decode cX12_work 8 = .ok (.iconst (-1), 1) := dq_2 (dst 8 rd_prog_14_method_34_code_0 rfl)
theorem dX12_work_9 : decode cX12_work 9 = .ok (.ireturn, 1) := dq_172 (dst 9 rd_prog_14_method_34_code_0 rfl)
theorem dX12_work_10 : decode cX12_work 10 = .ok (.aload_n 0, 1) := dq_42 (dst 10 rd_prog_14_method_34_code_0 rfl)
theorem dX12_work_11 : decode cX12_work 11 = .ok (.iload_n 2, 1) := dq_28 (dst 11 rd_prog_14_method_34_code_0 rfl)
theorem dX12_work_12 : decode cX12_work 12 = .ok (.invokevirtual 171, 3) := dq_182 (dst 12 rd_prog_14_method_34_code_0 rfl) rfl
theorem dX12_work_15 : decode cX12_work 15 = .ok (.ifCond .eq 16, 3) := dq_153 (dst 15 rd_prog_14_method_34_code_0 rfl) (by decide +kernel)
theorem dX12_work_18 : decode cX12_work 18 = .ok (.aload_n 0, 1) := dq_42 (dst 18 rd_prog_14_method_34_code_0 rfl)
theorem dX12_work_19 : decode cX12_work 19 = .ok (.iload_n 3, 1) := dq_29 (dst 19 rd_prog_14_method_34_code_0 rfl)
theorem dX12_work_20 : decode cX12_work 20 = .ok (.invokevirtual 178, 3) := dq_182 (dst 20 rd_prog_14_method_34_code_0 rfl) rfl
theorem dX12_work_23 : decode cX12_work 23 = .ok (.ifCond .eq 8, 3) := dq_153 (dst 23 rd_prog_14_method_34_code_0 rfl) (by decide +kernel)
theorem dX12_work_26 : decode cX12_work 26 = .ok (.iload 4, 2) := dq_21 (dst 26 rd_prog_14_method_34_code_0 rfl) rfl
theorem dX12_work_28 : decode cX12_work 28 = .ok (.ifCond .ge 6, 3) := dq_156 (dst 28 rd_prog_14_method_34_code_0 rfl) (by decide +kernel)
theorem dX12_work_31 : decode cX12_work 31 = .ok (.bipush (-2), 2) := dq_16 (dst 31 rd_prog_14_method_34_code_0 rfl) (by decide +kernel)
theorem dX12_work_33 : decode cX12_work 33 = .ok (.ireturn, 1) := dq_172 (dst 1 rd_prog_14_method_34_code_1 rfl)
theorem dX12_work_34 : decode cX12_work 34 = .ok (.aload_n 0, 1) := dq_42 (dst 2 rd_prog_14_method_34_code_1 rfl)
theorem dX12_work_35 : decode cX12_work 35 = .ok (.iload_n 1, 1) := dq_27 (dst 3 rd_prog_14_method_34_code_1 rfl)
theorem dX12_work_36 : decode cX12_work 36 = .ok (.iload_n 2, 1) := dq_28 (dst 4 rd_prog_14_method_34_code_1 rfl)
theorem dX12_work_37 : decode cX12_work 37 = .ok (.iload 4, 2) := dq_21 (dst 5 rd_prog_14_method_34_code_1 rfl) rfl
theorem dX12_work_39 : decode cX12_work 39 = .ok (.invokevirtual 174, 3) := dq_182 (dst 7 rd_prog_14_method_34_code_1 rfl) rfl
theorem dX12_work_42 : decode cX12_work 42 = .ok (.istore 6, 2) := dq_54 (dst 10 rd_prog_14_method_34_code_1 rfl) rfl
theorem dX12_work_44 : decode cX12_work 44 = .ok (.iload 6, 2) := dq_21 (dst 12 rd_prog_14_method_34_code_1 rfl) rfl
theorem dX12_work_46 : decode cX12_work 46 = .ok (.bipush (-9), 2) := dq_16 (dst 14 rd_prog_14_method_34_code_1 rfl) (by decide +kernel)
theorem dX12_work_48 : decode cX12_work 48 = .ok (.if_icmp .ne 6, 3) := dq_160 (dst 16 rd_prog_14_method_34_code_1 rfl) (by decide +kernel)
theorem dX12_work_51 : decode cX12_work 51 = .ok (.bipush (-3), 2) := dq_16 (dst 19 rd_prog_14_method_34_code_1 rfl) (by decide +kernel)
theorem dX12_work_53 : decode cX12_work 53 = .ok (.ireturn, 1) := dq_172 (dst 21 rd_prog_14_method_34_code_1 rfl)
theorem dX12_work_54 : decode cX12_work 54 = .ok (.aload_n 0, 1) := dq_42 (dst 22 rd_prog_14_method_34_code_1 rfl)
theorem dX12_work_55 : decode cX12_work 55 = .ok (.iload_n 1, 1) := dq_27 (dst 23 rd_prog_14_method_34_code_1 rfl)
theorem dX12_work_56 : decode cX12_work 56 = .ok (.iload 6, 2) := dq_21 (dst 24 rd_prog_14_method_34_code_1 rfl) rfl
theorem dX12_work_58 : decode cX12_work 58 = .ok (.iload_n 3, 1) := dq_29 (dst 26 rd_prog_14_method_34_code_1 rfl)
theorem dX12_work_59 : decode cX12_work 59 = .ok (.iload 4, 2) := dq_21 (dst 27 rd_prog_14_method_34_code_1 rfl) rfl
theorem dX12_work_61 : decode cX12_work 61 = .ok (.invokevirtual 167, 3) := dq_182 (dst 29 rd_prog_14_method_34_code_1 rfl) rfl
theorem dX12_work_64 : decode cX12_work 64 = .ok (.istore 7, 2) := dq_54 (dst 0 rd_prog_14_method_34_code_2 rfl) rfl
theorem dX12_work_66 : decode cX12_work 66 = .ok (.iload 5, 2) := dq_21 (dst 2 rd_prog_14_method_34_code_2 rfl) rfl
theorem dX12_work_68 : decode cX12_work 68 = .ok (.ifCond .eq 17, 3) := dq_153 (dst 4 rd_prog_14_method_34_code_2 rfl) (by decide +kernel)
theorem dX12_work_71 : decode cX12_work 71 = .ok (.iload 7, 2) := dq_21 (dst 7 rd_prog_14_method_34_code_2 rfl) rfl
theorem dX12_work_73 : decode cX12_work 73 = .ok (.ifCond .le 8, 3) := dq_158 (dst 9 rd_prog_14_method_34_code_2 rfl) (by decide +kernel)
theorem dX12_work_76 : decode cX12_work 76 = .ok (.iload 7, 2) := dq_21 (dst 12 rd_prog_14_method_34_code_2 rfl) rfl
theorem dX12_work_78 : decode cX12_work 78 = .ok (.goto 19, 3) := dq_167 (dst 14 rd_prog_14_method_34_code_2 rfl) (by decide +kernel)
theorem dX12_work_81 : decode cX12_work 81 = .ok (.iconst 0, 1) := dq_3 (dst 17 rd_prog_14_method_34_code_2 rfl)
theorem dX12_work_82 : decode cX12_work 82 = .ok (.goto 15, 3) := dq_167 (dst 18 rd_prog_14_method_34_code_2 rfl) (by decide +kernel)
theorem dX12_work_85 : decode cX12_work 85 = .ok (.iload 7, 2) := dq_21 (dst 21 rd_prog_14_method_34_code_2 rfl) rfl
theorem dX12_work_87 : decode cX12_work 87 = .ok (.ifCond .ge 9, 3) := dq_156 (dst 23 rd_prog_14_method_34_code_2 rfl) (by decide +kernel)
theorem dX12_work_90 : decode cX12_work 90 = .ok (.iload 7, 2) := dq_21 (dst 26 rd_prog_14_method_34_code_2 rfl) rfl
theorem dX12_work_92 : decode cX12_work 92 = .ok (.ineg, 1) := dq_116 (dst 28 rd_prog_14_method_34_code_2 rfl)
theorem dX12_work_93 : decode cX12_work 93 = .ok (.goto 4, 3) := dq_167 (dst 29 rd_prog_14_method_34_code_2 rfl) (by decide +kernel)
theorem dX12_work_96 : decode cX12_work 96 = .ok (.iconst 0, 1) := dq_3 (dst 0 rd_prog_14_method_34_code_3 rfl)
theorem dX12_work_97 : decode cX12_work 97 = .ok (.ireturn, 1) := dq_172 (dst 1 rd_prog_14_method_34_code_3 rfl)
theorem dX12_choose_0 : decode cX12_choose 0 = .ok (.iconst 1, 1) := dq_4 (dst 0 rd_prog_14_method_35_code_0 rfl)
theorem dX12_choose_1 : decode cX12_choose 1 = .ok (.istore_n 2, 1) := dq_61 (dst 1 rd_prog_14_method_35_code_0 rfl)
theorem dX12_choose_2 : decode cX12_choose 2 = .ok (.iconst 0, 1) := dq_3 (dst 2 rd_prog_14_method_35_code_0 rfl)
theorem dX12_choose_3 : decode cX12_choose 3 = .ok (.istore_n 3, 1) := dq_62 (dst 3 rd_prog_14_method_35_code_0 rfl)
theorem dX12_choose_4 : decode cX12_choose 4 = .ok (.iload_n 3, 1) := dq_29 (dst 4 rd_prog_14_method_35_code_0 rfl)
theorem dX12_choose_5 : decode cX12_choose 5 = .ok (.iload_n 1, 1) := dq_27 (dst 5 rd_prog_14_method_35_code_0 rfl)
theorem dX12_choose_6 : decode cX12_choose 6 = .ok (.if_icmp .ge 19, 3) := dq_162 (dst 6 rd_prog_14_method_35_code_0 rfl) (by decide +kernel)
theorem dX12_choose_9 : decode cX12_choose 9 = .ok (.iload_n 2, 1) := dq_28 (dst 9 rd_prog_14_method_35_code_0 rfl)
theorem dX12_choose_10 : decode cX12_choose 10 = .ok (.iload_n 0, 1) := dq_26 (dst 10 rd_prog_14_method_35_code_0 rfl)
theorem dX12_choose_11 : decode cX12_choose 11 = .ok (.iload_n 3, 1) := dq_29 (dst 11 rd_prog_14_method_35_code_0 rfl)
theorem dX12_choose_12 : decode cX12_choose 12 = .ok (.isub, 1) := dq_100 (dst 12 rd_prog_14_method_35_code_0 rfl)
theorem dX12_choose_13 : decode cX12_choose 13 = .ok (.imul, 1) := dq_104 (dst 13 rd_prog_14_method_35_code_0 rfl)
theorem dX12_choose_14 : decode cX12_choose 14 = .ok (.iload_n 3, 1) := dq_29 (dst 14 rd_prog_14_method_35_code_0 rfl)
theorem dX12_choose_15 : decode cX12_choose 15 = .ok (.iconst 1, 1) := dq_4 (dst 15 rd_prog_14_method_35_code_0 rfl)
theorem dX12_choose_16 : decode cX12_choose 16 = .ok (.iadd, 1) := dq_96 (dst 16 rd_prog_14_method_35_code_0 rfl)
theorem dX12_choose_17 : decode cX12_choose 17 = .ok (.idiv, 1) := dq_108 (dst 17 rd_prog_14_method_35_code_0 rfl)
theorem dX12_choose_18 : decode cX12_choose 18 = .ok (.istore_n 2, 1) := dq_61 (dst 18 rd_prog_14_method_35_code_0 rfl)
theorem dX12_choose_19 : decode cX12_choose 19 = .ok (.iinc 3 1, 3) := dq_132 (dst 19 rd_prog_14_method_35_code_0 rfl) rfl (by decide +kernel)
theorem dX12_choose_22 : decode cX12_choose 22 = .ok (.goto (-18), 3) := dq_167 (dst 22 rd_prog_14_method_35_code_0 rfl) (by decide +kernel)
theorem dX12_choose_25 : decode cX12_choose 25 = .ok (.iload_n 2, 1) := dq_28 (dst 25 rd_prog_14_method_35_code_0 rfl)
theorem dX12_choose_26 : decode cX12_choose 26 = .ok (.ireturn, 1) := dq_172 (dst 26 rd_prog_14_method_35_code_0 rfl)
theorem dX12_power_0 : decode cX12_power 0 = .ok (.iconst 1, 1) := dq_4 (dst 0 rd_prog_14_method_36_code_0 rfl)
theorem dX12_power_1 : decode cX12_power 1 = .ok (.istore_n 2, 1) := dq_61 (dst 1 rd_prog_14_method_36_code_0 rfl)
theorem dX12_power_2 : decode cX12_power 2 = .ok (.iconst 0, 1) := dq_3 (dst 2 rd_prog_14_method_36_code_0 rfl)
theorem dX12_power_3 : decode cX12_power 3 = .ok (.istore_n 3, 1) := dq_62 (dst 3 rd_prog_14_method_36_code_0 rfl)
theorem dX12_power_4 : decode cX12_power 4 = .ok (.iload_n 3, 1) := dq_29 (dst 4 rd_prog_14_method_36_code_0 rfl)
theorem dX12_power_5 : decode cX12_power 5 = .ok (.iload_n 1, 1) := dq_27 (dst 5 rd_prog_14_method_36_code_0 rfl)
theorem dX12_power_6 : decode cX12_power 6 = .ok (.if_icmp .ge 13, 3) := dq_162 (dst 6 rd_prog_14_method_36_code_0 rfl) (by decide +kernel)
theorem dX12_power_9 : decode cX12_power 9 = .ok (.iload_n 2, 1) := dq_28 (dst 9 rd_prog_14_method_36_code_0 rfl)
theorem dX12_power_10 : decode cX12_power 10 = .ok (.iload_n 0, 1) := dq_26 (dst 10 rd_prog_14_method_36_code_0 rfl)
theorem dX12_power_11 : decode cX12_power 11 = .ok (.imul, 1) := dq_104 (dst 11 rd_prog_14_method_36_code_0 rfl)
theorem dX12_power_12 : decode cX12_power 12 = .ok (.istore_n 2, 1) := dq_61 (dst 12 rd_prog_14_method_36_code_0 rfl)
theorem dX12_power_13 : decode cX12_power 13 = .ok (.iinc 3 1, 3) := dq_132 (dst 13 rd_prog_14_method_36_code_0 rfl) rfl (by decide +kernel)
theorem dX12_power_16 : decode cX12_power 16 = .ok (.goto (-12), 3) := dq_167 (dst 16 rd_prog_14_method_36_code_0 rfl) (by decide +kernel)
theorem dX12_power_19 : decode cX12_power 19 = .ok (.iload_n 2, 1) := dq_28 (dst 19 rd_prog_14_method_36_code_0 rfl)
theorem dX12_power_20 : decode cX12_power 20 = .ok (.ireturn, 1) := dq_172 (dst 20 rd_prog_14_method_36_code_0 rfl)
theorem lf_X12_stays_1 : ∀ w ∈ ([Cond.methodLink RX12 73 yX12_in, Cond.static yX12_in, Cond.initialized RX12, Cond.code yX12_in cX12_in 6 (some .boolean), Cond.methodLink RX12 184 yX12_choose, Cond.static yX12_choose, Cond.code yX12_choose cX12_choose 4 (some .int), Cond.methodLink RX12 155 yX12_goes, Cond.instanceMethod yX12_goes, Cond.selects RX12 yX12_goes yX12_goes, Cond.code yX12_goes cX12_goes 3 (some .int), Cond.fieldLink RX12 13 "StillInAugustModel" "house" "[I", Cond.methodLink RX12 187 yX12_power, Cond.static yX12_power, Cond.code yX12_power cX12_power 4 (some .int)] : List Cond), w ∈ wsX12_stays := fun _ h => (List.mem_cons_of_mem _ (List.mem_append_left _ h))
theorem lf_X12_stays_2 : ∀ w ∈ wsX120, w ∈ wsX12_stays := fun _ h => (List.mem_cons_of_mem _ (List.mem_append_right _ h))
set_option maxRecDepth 20000 in
theorem ggX12_stays_X12_in : GoodIn wsX12_stays wsX12_in := (gd_cons (lf_X12_stays_1 _ (List.mem_of_getElem? (i := 3) rfl)) rfl (gd_nil _))
set_option maxRecDepth 20000 in
theorem gX12_stays_X12_in : GoodIn wsX12_stays (va_wsS RX12 73 yX12_in wsX12_in) := goodIn_app (gd_cons (lf_X12_stays_1 _ (List.mem_of_getElem? (i := 0) rfl)) rfl (gd_cons (lf_X12_stays_1 _ (List.mem_of_getElem? (i := 1) rfl)) rfl (gd_cons (lf_X12_stays_1 _ (List.mem_of_getElem? (i := 2) rfl)) rfl (gd_nil _)))) ggX12_stays_X12_in
set_option maxRecDepth 20000 in
theorem ggX12_stays_X12_choose : GoodIn wsX12_stays wsX12_choose := (gd_cons (lf_X12_stays_1 _ (List.mem_of_getElem? (i := 6) rfl)) rfl (gd_nil _))
set_option maxRecDepth 20000 in
theorem gX12_stays_X12_choose : GoodIn wsX12_stays (va_wsS RX12 184 yX12_choose wsX12_choose) := goodIn_app (gd_cons (lf_X12_stays_1 _ (List.mem_of_getElem? (i := 4) rfl)) rfl (gd_cons (lf_X12_stays_1 _ (List.mem_of_getElem? (i := 5) rfl)) rfl (gd_cons (lf_X12_stays_1 _ (List.mem_of_getElem? (i := 2) rfl)) rfl (gd_nil _)))) ggX12_stays_X12_choose
set_option maxRecDepth 20000 in
theorem ggX12_stays_X12_goes : GoodIn wsX12_stays wsX12_goes := (gd_cons (lf_X12_stays_1 _ (List.mem_of_getElem? (i := 10) rfl)) rfl (goodIn_app (gd_cons (lf_X12_stays_1 _ (List.mem_of_getElem? (i := 11) rfl)) rfl (gd_nil _)) (goodIn_sub lf_X12_stays_2 ga_wsX120)))
set_option maxRecDepth 20000 in
theorem gX12_stays_X12_goes : GoodIn wsX12_stays (wsV RX12 155 RX12 yX12_goes wsX12_goes) := goodIn_app (gd_cons (lf_X12_stays_1 _ (List.mem_of_getElem? (i := 7) rfl)) rfl (gd_cons (lf_X12_stays_1 _ (List.mem_of_getElem? (i := 8) rfl)) rfl (gd_cons (lf_X12_stays_1 _ (List.mem_of_getElem? (i := 9) rfl)) rfl (gd_cons (lf_X12_stays_1 _ (List.mem_of_getElem? (i := 2) rfl)) rfl (gd_nil _))))) ggX12_stays_X12_goes
set_option maxRecDepth 20000 in
theorem ggX12_stays_X12_power : GoodIn wsX12_stays wsX12_power := (gd_cons (lf_X12_stays_1 _ (List.mem_of_getElem? (i := 14) rfl)) rfl (gd_nil _))
set_option maxRecDepth 20000 in
theorem gX12_stays_X12_power : GoodIn wsX12_stays (va_wsS RX12 187 yX12_power wsX12_power) := goodIn_app (gd_cons (lf_X12_stays_1 _ (List.mem_of_getElem? (i := 12) rfl)) rfl (gd_cons (lf_X12_stays_1 _ (List.mem_of_getElem? (i := 13) rfl)) rfl (gd_cons (lf_X12_stays_1 _ (List.mem_of_getElem? (i := 2) rfl)) rfl (gd_nil _)))) ggX12_stays_X12_power
theorem dX12_stays_0 : decode cX12_stays 0 = .ok (.iload_n 3, 1) := dq_29 (dst 0 rd_prog_14_method_37_code_0 rfl)
theorem dX12_stays_1 : decode cX12_stays 1 = .ok (.i2l, 1) := dq_133 (dst 1 rd_prog_14_method_37_code_0 rfl)
theorem dX12_stays_2 : decode cX12_stays 2 = .ok (.lconst 0, 1) := dq_9 (dst 2 rd_prog_14_method_37_code_0 rfl)
theorem dX12_stays_3 : decode cX12_stays 3 = .ok (.iload_n 2, 1) := dq_28 (dst 3 rd_prog_14_method_37_code_0 rfl)
theorem dX12_stays_4 : decode cX12_stays 4 = .ok (.i2l, 1) := dq_133 (dst 4 rd_prog_14_method_37_code_0 rfl)
theorem dX12_stays_5 : decode cX12_stays 5 = .ok (.invokestatic 73, 3) := dq_184 (dst 5 rd_prog_14_method_37_code_0 rfl) rfl
theorem dX12_stays_8 : decode cX12_stays 8 = .ok (.ifCond .eq 35, 3) := dq_153 (dst 8 rd_prog_14_method_37_code_0 rfl) (by decide +kernel)
theorem dX12_stays_11 : decode cX12_stays 11 = .ok (.iload_n 2, 1) := dq_28 (dst 11 rd_prog_14_method_37_code_0 rfl)
theorem dX12_stays_12 : decode cX12_stays 12 = .ok (.iload_n 3, 1) := dq_29 (dst 12 rd_prog_14_method_37_code_0 rfl)
theorem dX12_stays_13 : decode cX12_stays 13 = .ok (.invokestatic 184, 3) := dq_184 (dst 13 rd_prog_14_method_37_code_0 rfl) rfl
theorem dX12_stays_16 : decode cX12_stays 16 = .ok (.iconst 5, 1) := dq_8 (dst 16 rd_prog_14_method_37_code_0 rfl)
theorem dX12_stays_17 : decode cX12_stays 17 = .ok (.aload_n 0, 1) := dq_42 (dst 17 rd_prog_14_method_37_code_0 rfl)
theorem dX12_stays_18 : decode cX12_stays 18 = .ok (.iload_n 1, 1) := dq_27 (dst 18 rd_prog_14_method_37_code_0 rfl)
theorem dX12_stays_19 : decode cX12_stays 19 = .ok (.invokevirtual 155, 3) := dq_182 (dst 19 rd_prog_14_method_37_code_0 rfl) rfl
theorem dX12_stays_22 : decode cX12_stays 22 = .ok (.isub, 1) := dq_100 (dst 22 rd_prog_14_method_37_code_0 rfl)
theorem dX12_stays_23 : decode cX12_stays 23 = .ok (.iload_n 3, 1) := dq_29 (dst 23 rd_prog_14_method_37_code_0 rfl)
theorem dX12_stays_24 : decode cX12_stays 24 = .ok (.invokestatic 187, 3) := dq_184 (dst 24 rd_prog_14_method_37_code_0 rfl) rfl
theorem dX12_stays_27 : decode cX12_stays 27 = .ok (.imul, 1) := dq_104 (dst 27 rd_prog_14_method_37_code_0 rfl)
theorem dX12_stays_28 : decode cX12_stays 28 = .ok (.aload_n 0, 1) := dq_42 (dst 28 rd_prog_14_method_37_code_0 rfl)
theorem dX12_stays_29 : decode cX12_stays 29 = .ok (.iload_n 1, 1) := dq_27 (dst 29 rd_prog_14_method_37_code_0 rfl)
theorem dX12_stays_30 : decode cX12_stays 30 = .ok (.invokevirtual 155, 3) := dq_182 (dst 30 rd_prog_14_method_37_code_0 rfl) rfl
theorem dX12_stays_33 : decode cX12_stays 33 = .ok (.iload_n 2, 1) := dq_28 (dst 1 rd_prog_14_method_37_code_1 rfl)
theorem dX12_stays_34 : decode cX12_stays 34 = .ok (.iload_n 3, 1) := dq_29 (dst 2 rd_prog_14_method_37_code_1 rfl)
theorem dX12_stays_35 : decode cX12_stays 35 = .ok (.isub, 1) := dq_100 (dst 3 rd_prog_14_method_37_code_1 rfl)
theorem dX12_stays_36 : decode cX12_stays 36 = .ok (.invokestatic 187, 3) := dq_184 (dst 4 rd_prog_14_method_37_code_1 rfl) rfl
theorem dX12_stays_39 : decode cX12_stays 39 = .ok (.imul, 1) := dq_104 (dst 7 rd_prog_14_method_37_code_1 rfl)
theorem dX12_stays_40 : decode cX12_stays 40 = .ok (.goto 4, 3) := dq_167 (dst 8 rd_prog_14_method_37_code_1 rfl) (by decide +kernel)
theorem dX12_stays_43 : decode cX12_stays 43 = .ok (.iconst 0, 1) := dq_3 (dst 11 rd_prog_14_method_37_code_1 rfl)
theorem dX12_stays_44 : decode cX12_stays 44 = .ok (.ireturn, 1) := dq_172 (dst 12 rd_prog_14_method_37_code_1 rfl)
theorem lf_X12_sundayOf_1 : ∀ w ∈ ([Cond.methodLink RX12 190 yX12_stays, Cond.instanceMethod yX12_stays, Cond.selects RX12 yX12_stays yX12_stays, Cond.initialized RX12, Cond.code yX12_stays cX12_stays 4 (some .int), Cond.methodLink RX12 73 yX12_in, Cond.static yX12_in, Cond.code yX12_in cX12_in 6 (some .boolean), Cond.methodLink RX12 184 yX12_choose, Cond.static yX12_choose, Cond.code yX12_choose cX12_choose 4 (some .int), Cond.methodLink RX12 155 yX12_goes, Cond.instanceMethod yX12_goes, Cond.selects RX12 yX12_goes yX12_goes, Cond.code yX12_goes cX12_goes 3 (some .int), Cond.fieldLink RX12 13 "StillInAugustModel" "house" "[I", Cond.methodLink RX12 187 yX12_power, Cond.static yX12_power, Cond.code yX12_power cX12_power 4 (some .int), Cond.methodLink RX12 160 yX12_all, Cond.static yX12_all, Cond.code yX12_all cX12_all 1 (some .int)] : List Cond), w ∈ wsX12_sundayOf := fun _ h => (List.mem_cons_of_mem _ (List.mem_append_left _ h))
theorem lf_X12_sundayOf_2 : ∀ w ∈ wsX120, w ∈ wsX12_sundayOf := fun _ h => (List.mem_cons_of_mem _ (List.mem_append_right _ h))
set_option maxRecDepth 20000 in
theorem ggX12_sundayOf_X12_stays : GoodIn wsX12_sundayOf wsX12_stays := (gd_cons (lf_X12_sundayOf_1 _ (List.mem_of_getElem? (i := 4) rfl)) rfl (goodIn_app (gd_cons (lf_X12_sundayOf_1 _ (List.mem_of_getElem? (i := 5) rfl)) rfl (gd_cons (lf_X12_sundayOf_1 _ (List.mem_of_getElem? (i := 6) rfl)) rfl (gd_cons (lf_X12_sundayOf_1 _ (List.mem_of_getElem? (i := 3) rfl)) rfl (gd_cons (lf_X12_sundayOf_1 _ (List.mem_of_getElem? (i := 7) rfl)) rfl (gd_cons (lf_X12_sundayOf_1 _ (List.mem_of_getElem? (i := 8) rfl)) rfl (gd_cons (lf_X12_sundayOf_1 _ (List.mem_of_getElem? (i := 9) rfl)) rfl (gd_cons (lf_X12_sundayOf_1 _ (List.mem_of_getElem? (i := 10) rfl)) rfl (gd_cons (lf_X12_sundayOf_1 _ (List.mem_of_getElem? (i := 11) rfl)) rfl (gd_cons (lf_X12_sundayOf_1 _ (List.mem_of_getElem? (i := 12) rfl)) rfl (gd_cons (lf_X12_sundayOf_1 _ (List.mem_of_getElem? (i := 13) rfl)) rfl (gd_cons (lf_X12_sundayOf_1 _ (List.mem_of_getElem? (i := 14) rfl)) rfl (gd_cons (lf_X12_sundayOf_1 _ (List.mem_of_getElem? (i := 15) rfl)) rfl (gd_cons (lf_X12_sundayOf_1 _ (List.mem_of_getElem? (i := 16) rfl)) rfl (gd_cons (lf_X12_sundayOf_1 _ (List.mem_of_getElem? (i := 17) rfl)) rfl (gd_cons (lf_X12_sundayOf_1 _ (List.mem_of_getElem? (i := 18) rfl)) rfl (gd_nil _)))))))))))))))) (goodIn_sub lf_X12_sundayOf_2 ga_wsX120)))
set_option maxRecDepth 20000 in
theorem gX12_sundayOf_X12_stays : GoodIn wsX12_sundayOf (wsV RX12 190 RX12 yX12_stays wsX12_stays) := goodIn_app (gd_cons (lf_X12_sundayOf_1 _ (List.mem_of_getElem? (i := 0) rfl)) rfl (gd_cons (lf_X12_sundayOf_1 _ (List.mem_of_getElem? (i := 1) rfl)) rfl (gd_cons (lf_X12_sundayOf_1 _ (List.mem_of_getElem? (i := 2) rfl)) rfl (gd_cons (lf_X12_sundayOf_1 _ (List.mem_of_getElem? (i := 3) rfl)) rfl (gd_nil _))))) ggX12_sundayOf_X12_stays
set_option maxRecDepth 20000 in
theorem ggX12_sundayOf_X12_all : GoodIn wsX12_sundayOf wsX12_all := (gd_cons (lf_X12_sundayOf_1 _ (List.mem_of_getElem? (i := 21) rfl)) rfl (gd_nil _))
set_option maxRecDepth 20000 in
theorem gX12_sundayOf_X12_all : GoodIn wsX12_sundayOf (va_wsS RX12 160 yX12_all wsX12_all) := goodIn_app (gd_cons (lf_X12_sundayOf_1 _ (List.mem_of_getElem? (i := 19) rfl)) rfl (gd_cons (lf_X12_sundayOf_1 _ (List.mem_of_getElem? (i := 20) rfl)) rfl (gd_cons (lf_X12_sundayOf_1 _ (List.mem_of_getElem? (i := 3) rfl)) rfl (gd_nil _)))) ggX12_sundayOf_X12_all
set_option maxRecDepth 20000 in
theorem ggX12_sundayOf_X12_power : GoodIn wsX12_sundayOf wsX12_power := (gd_cons (lf_X12_sundayOf_1 _ (List.mem_of_getElem? (i := 18) rfl)) rfl (gd_nil _))
set_option maxRecDepth 20000 in
theorem gX12_sundayOf_X12_power : GoodIn wsX12_sundayOf (va_wsS RX12 187 yX12_power wsX12_power) := goodIn_app (gd_cons (lf_X12_sundayOf_1 _ (List.mem_of_getElem? (i := 16) rfl)) rfl (gd_cons (lf_X12_sundayOf_1 _ (List.mem_of_getElem? (i := 17) rfl)) rfl (gd_cons (lf_X12_sundayOf_1 _ (List.mem_of_getElem? (i := 3) rfl)) rfl (gd_nil _)))) ggX12_sundayOf_X12_power
theorem dX12_sundayOf_0 : decode cX12_sundayOf 0 = .ok (.iconst 0, 1) := dq_3 (dst 0 rd_prog_14_method_38_code_0 rfl)
theorem dX12_sundayOf_1 : decode cX12_sundayOf 1 = .ok (.istore_n 3, 1) := dq_62 (dst 1 rd_prog_14_method_38_code_0 rfl)
theorem dX12_sundayOf_2 : decode cX12_sundayOf 2 = .ok (.iload_n 1, 1) := dq_27 (dst 2 rd_prog_14_method_38_code_0 rfl)
theorem dX12_sundayOf_3 : decode cX12_sundayOf 3 = .ok (.bipush 100, 2) := dq_16 (dst 3 rd_prog_14_method_38_code_0 rfl) (by decide +kernel)
theorem dX12_sundayOf_5 : decode cX12_sundayOf 5 = .ok (.idiv, 1) := dq_108 (dst 5 rd_prog_14_method_38_code_0 rfl)
theorem dX12_sundayOf_6 : decode cX12_sundayOf 6 = .ok (.istore 4, 2) := dq_54 (dst 6 rd_prog_14_method_38_code_0 rfl) rfl
theorem dX12_sundayOf_8 : decode cX12_sundayOf 8 = .ok (.iload_n 1, 1) := dq_27 (dst 8 rd_prog_14_method_38_code_0 rfl)
theorem dX12_sundayOf_9 : decode cX12_sundayOf 9 = .ok (.bipush 10, 2) := dq_16 (dst 9 rd_prog_14_method_38_code_0 rfl) (by decide +kernel)
theorem dX12_sundayOf_11 : decode cX12_sundayOf 11 = .ok (.idiv, 1) := dq_108 (dst 11 rd_prog_14_method_38_code_0 rfl)
theorem dX12_sundayOf_12 : decode cX12_sundayOf 12 = .ok (.bipush 10, 2) := dq_16 (dst 12 rd_prog_14_method_38_code_0 rfl) (by decide +kernel)
theorem dX12_sundayOf_14 : decode cX12_sundayOf 14 = .ok (.irem, 1) := dq_112 (dst 14 rd_prog_14_method_38_code_0 rfl)
theorem dX12_sundayOf_15 : decode cX12_sundayOf 15 = .ok (.istore 5, 2) := dq_54 (dst 15 rd_prog_14_method_38_code_0 rfl) rfl
theorem dX12_sundayOf_17 : decode cX12_sundayOf 17 = .ok (.iload_n 1, 1) := dq_27 (dst 17 rd_prog_14_method_38_code_0 rfl)
theorem dX12_sundayOf_18 : decode cX12_sundayOf 18 = .ok (.bipush 10, 2) := dq_16 (dst 18 rd_prog_14_method_38_code_0 rfl) (by decide +kernel)
theorem dX12_sundayOf_20 : decode cX12_sundayOf 20 = .ok (.irem, 1) := dq_112 (dst 20 rd_prog_14_method_38_code_0 rfl)
theorem dX12_sundayOf_21 : decode cX12_sundayOf 21 = .ok (.istore 6, 2) := dq_54 (dst 21 rd_prog_14_method_38_code_0 rfl) rfl
theorem dX12_sundayOf_23 : decode cX12_sundayOf 23 = .ok (.iconst 0, 1) := dq_3 (dst 23 rd_prog_14_method_38_code_0 rfl)
theorem dX12_sundayOf_24 : decode cX12_sundayOf 24 = .ok (.istore 7, 2) := dq_54 (dst 24 rd_prog_14_method_38_code_0 rfl) rfl
theorem dX12_sundayOf_26 : decode cX12_sundayOf 26 = .ok (.iload 7, 2) := dq_21 (dst 26 rd_prog_14_method_38_code_0 rfl) rfl
theorem dX12_sundayOf_28 : decode cX12_sundayOf 28 = .ok (.iload 5, 2) := dq_21 (dst 28 rd_prog_14_method_38_code_0 rfl) rfl
theorem dX12_sundayOf_30 : decode cX12_sundayOf 30 = .ok (.if_icmp .gt 57, 3) := dq_163 (dst 30 rd_prog_14_method_38_code_0 rfl) (by decide +kernel)
theorem dX12_sundayOf_33 : decode cX12_sundayOf 33 = .ok (.iload_n 2, 1) := dq_28 (dst 1 rd_prog_14_method_38_code_1 rfl)
theorem dX12_sundayOf_34 : decode cX12_sundayOf 34 = .ok (.bipush 100, 2) := dq_16 (dst 2 rd_prog_14_method_38_code_1 rfl) (by decide +kernel)
theorem dX12_sundayOf_36 : decode cX12_sundayOf 36 = .ok (.if_icmp .ge 51, 3) := dq_162 (dst 4 rd_prog_14_method_38_code_1 rfl) (by decide +kernel)
theorem dX12_sundayOf_39 : decode cX12_sundayOf 39 = .ok (.iload_n 3, 1) := dq_29 (dst 7 rd_prog_14_method_38_code_1 rfl)
theorem dX12_sundayOf_40 : decode cX12_sundayOf 40 = .ok (.aload_n 0, 1) := dq_42 (dst 8 rd_prog_14_method_38_code_1 rfl)
theorem dX12_sundayOf_41 : decode cX12_sundayOf 41 = .ok (.iconst 0, 1) := dq_3 (dst 9 rd_prog_14_method_38_code_1 rfl)
theorem dX12_sundayOf_42 : decode cX12_sundayOf 42 = .ok (.iload 4, 2) := dq_21 (dst 10 rd_prog_14_method_38_code_1 rfl) rfl
theorem dX12_sundayOf_44 : decode cX12_sundayOf 44 = .ok (.iload_n 2, 1) := dq_28 (dst 12 rd_prog_14_method_38_code_1 rfl)
theorem dX12_sundayOf_45 : decode cX12_sundayOf 45 = .ok (.bipush 10, 2) := dq_16 (dst 13 rd_prog_14_method_38_code_1 rfl) (by decide +kernel)
theorem dX12_sundayOf_47 : decode cX12_sundayOf 47 = .ok (.idiv, 1) := dq_108 (dst 15 rd_prog_14_method_38_code_1 rfl)
theorem dX12_sundayOf_48 : decode cX12_sundayOf 48 = .ok (.bipush 10, 2) := dq_16 (dst 16 rd_prog_14_method_38_code_1 rfl) (by decide +kernel)
theorem dX12_sundayOf_50 : decode cX12_sundayOf 50 = .ok (.irem, 1) := dq_112 (dst 18 rd_prog_14_method_38_code_1 rfl)
theorem dX12_sundayOf_51 : decode cX12_sundayOf 51 = .ok (.invokevirtual 190, 3) := dq_182 (dst 19 rd_prog_14_method_38_code_1 rfl) rfl
theorem dX12_sundayOf_54 : decode cX12_sundayOf 54 = .ok (.aload_n 0, 1) := dq_42 (dst 22 rd_prog_14_method_38_code_1 rfl)
theorem dX12_sundayOf_55 : decode cX12_sundayOf 55 = .ok (.iconst 1, 1) := dq_4 (dst 23 rd_prog_14_method_38_code_1 rfl)
theorem dX12_sundayOf_56 : decode cX12_sundayOf 56 = .ok (.iload 5, 2) := dq_21 (dst 24 rd_prog_14_method_38_code_1 rfl) rfl
theorem dX12_sundayOf_58 : decode cX12_sundayOf 58 = .ok (.iload 7, 2) := dq_21 (dst 26 rd_prog_14_method_38_code_1 rfl) rfl
theorem dX12_sundayOf_60 : decode cX12_sundayOf 60 = .ok (.invokevirtual 190, 3) := dq_182 (dst 28 rd_prog_14_method_38_code_1 rfl) rfl
theorem dX12_sundayOf_63 : decode cX12_sundayOf 63 = .ok (.imul, 1) := dq_104 (dst 31 rd_prog_14_method_38_code_1 rfl)
theorem dX12_sundayOf_64 : decode cX12_sundayOf 64 = .ok (.aload_n 0, 1) := dq_42 (dst 0 rd_prog_14_method_38_code_2 rfl)
theorem dX12_sundayOf_65 : decode cX12_sundayOf 65 = .ok (.iconst 2, 1) := dq_5 (dst 1 rd_prog_14_method_38_code_2 rfl)
theorem dX12_sundayOf_66 : decode cX12_sundayOf 66 = .ok (.iload 6, 2) := dq_21 (dst 2 rd_prog_14_method_38_code_2 rfl) rfl
theorem dX12_sundayOf_68 : decode cX12_sundayOf 68 = .ok (.iload_n 2, 1) := dq_28 (dst 4 rd_prog_14_method_38_code_2 rfl)
theorem dX12_sundayOf_69 : decode cX12_sundayOf 69 = .ok (.bipush 10, 2) := dq_16 (dst 5 rd_prog_14_method_38_code_2 rfl) (by decide +kernel)
theorem dX12_sundayOf_71 : decode cX12_sundayOf 71 = .ok (.irem, 1) := dq_112 (dst 7 rd_prog_14_method_38_code_2 rfl)
theorem dX12_sundayOf_72 : decode cX12_sundayOf 72 = .ok (.iload 7, 2) := dq_21 (dst 8 rd_prog_14_method_38_code_2 rfl) rfl
theorem dX12_sundayOf_74 : decode cX12_sundayOf 74 = .ok (.isub, 1) := dq_100 (dst 10 rd_prog_14_method_38_code_2 rfl)
theorem dX12_sundayOf_75 : decode cX12_sundayOf 75 = .ok (.invokevirtual 190, 3) := dq_182 (dst 11 rd_prog_14_method_38_code_2 rfl) rfl
theorem dX12_sundayOf_78 : decode cX12_sundayOf 78 = .ok (.imul, 1) := dq_104 (dst 14 rd_prog_14_method_38_code_2 rfl)
theorem dX12_sundayOf_79 : decode cX12_sundayOf 79 = .ok (.iadd, 1) := dq_96 (dst 15 rd_prog_14_method_38_code_2 rfl)
theorem dX12_sundayOf_80 : decode cX12_sundayOf 80 = .ok (.istore_n 3, 1) := dq_62 (dst 16 rd_prog_14_method_38_code_2 rfl)
theorem dX12_sundayOf_81 : decode cX12_sundayOf 81 = .ok (.iinc 7 1, 3) := dq_132 (dst 17 rd_prog_14_method_38_code_2 rfl) rfl (by decide +kernel)
theorem dX12_sundayOf_84 : decode cX12_sundayOf 84 = .ok (.goto (-58), 3) := dq_167 (dst 20 rd_prog_14_method_38_code_2 rfl) (by decide +kernel)
theorem dX12_sundayOf_87 : decode cX12_sundayOf 87 = .ok (.iload_n 3, 1) := dq_29 (dst 23 rd_prog_14_method_38_code_2 rfl)
theorem dX12_sundayOf_88 : decode cX12_sundayOf 88 = .ok (.iconst 5, 1) := dq_8 (dst 24 rd_prog_14_method_38_code_2 rfl)
theorem dX12_sundayOf_89 : decode cX12_sundayOf 89 = .ok (.iconst 4, 1) := dq_7 (dst 25 rd_prog_14_method_38_code_2 rfl)
theorem dX12_sundayOf_90 : decode cX12_sundayOf 90 = .ok (.iload_n 1, 1) := dq_27 (dst 26 rd_prog_14_method_38_code_2 rfl)
theorem dX12_sundayOf_91 : decode cX12_sundayOf 91 = .ok (.invokestatic 160, 3) := dq_184 (dst 27 rd_prog_14_method_38_code_2 rfl) rfl
theorem dX12_sundayOf_94 : decode cX12_sundayOf 94 = .ok (.isub, 1) := dq_100 (dst 30 rd_prog_14_method_38_code_2 rfl)
theorem dX12_sundayOf_95 : decode cX12_sundayOf 95 = .ok (.invokestatic 187, 3) := dq_184 (dst 31 rd_prog_14_method_38_code_2 rfl) rfl
theorem dX12_sundayOf_98 : decode cX12_sundayOf 98 = .ok (.imul, 1) := dq_104 (dst 2 rd_prog_14_method_38_code_3 rfl)
theorem dX12_sundayOf_99 : decode cX12_sundayOf 99 = .ok (.ireturn, 1) := dq_172 (dst 3 rd_prog_14_method_38_code_3 rfl)
theorem dX12_common_0 : decode cX12_common 0 = .ok (.lload_n 0, 1) := dq_30 (dst 0 rd_prog_14_method_39_code_0 rfl)
theorem dX12_common_1 : decode cX12_common 1 = .ok (.lstore 4, 2) := dq_55 (dst 1 rd_prog_14_method_39_code_0 rfl) rfl
theorem dX12_common_3 : decode cX12_common 3 = .ok (.lload_n 2, 1) := dq_32 (dst 3 rd_prog_14_method_39_code_0 rfl)
theorem dX12_common_4 : decode cX12_common 4 = .ok (.lstore 6, 2) := dq_55 (dst 4 rd_prog_14_method_39_code_0 rfl) rfl
theorem dX12_common_6 : decode cX12_common 6 = .ok (.lload 6, 2) := dq_22 (dst 6 rd_prog_14_method_39_code_0 rfl) rfl
theorem dX12_common_8 : decode cX12_common 8 = .ok (.lconst 0, 1) := dq_9 (dst 8 rd_prog_14_method_39_code_0 rfl)
theorem dX12_common_9 : decode cX12_common 9 = .ok (.lcmp, 1) := dq_148 (dst 9 rd_prog_14_method_39_code_0 rfl)
theorem dX12_common_10 : decode cX12_common 10 = .ok (.ifCond .eq 21, 3) := dq_153 (dst 10 rd_prog_14_method_39_code_0 rfl) (by decide +kernel)
theorem dX12_common_13 : decode cX12_common 13 = .ok (.lload 4, 2) := dq_22 (dst 13 rd_prog_14_method_39_code_0 rfl) rfl
theorem dX12_common_15 : decode cX12_common 15 = .ok (.lload 6, 2) := dq_22 (dst 15 rd_prog_14_method_39_code_0 rfl) rfl
theorem dX12_common_17 : decode cX12_common 17 = .ok (.lrem, 1) := dq_113 (dst 17 rd_prog_14_method_39_code_0 rfl)
theorem dX12_common_18 : decode cX12_common 18 = .ok (.lstore 8, 2) := dq_55 (dst 18 rd_prog_14_method_39_code_0 rfl) rfl
theorem dX12_common_20 : decode cX12_common 20 = .ok (.lload 6, 2) := dq_22 (dst 20 rd_prog_14_method_39_code_0 rfl) rfl
theorem dX12_common_22 : decode cX12_common 22 = .ok (.lstore 4, 2) := dq_55 (dst 22 rd_prog_14_method_39_code_0 rfl) rfl
theorem dX12_common_24 : decode cX12_common 24 = .ok (.lload 8, 2) := dq_22 (dst 24 rd_prog_14_method_39_code_0 rfl) rfl
theorem dX12_common_26 : decode cX12_common 26 = .ok (.lstore 6, 2) := dq_55 (dst 26 rd_prog_14_method_39_code_0 rfl) rfl
theorem dX12_common_28 : decode cX12_common 28 = .ok (.goto (-22), 3) := dq_167 (dst 28 rd_prog_14_method_39_code_0 rfl) (by decide +kernel)
theorem dX12_common_31 : decode cX12_common 31 = .ok (.lload 4, 2) := dq_22 (dst 31 rd_prog_14_method_39_code_0 rfl) rfl
theorem dX12_common_33 : decode cX12_common 33 = .ok (.lreturn, 1) := dq_173 (dst 1 rd_prog_14_method_39_code_1 rfl)
theorem lf_X12_told_1 : ∀ w ∈ ([Cond.methodLink RX12 193 yX12_common, Cond.static yX12_common, Cond.initialized RX12, Cond.code yX12_common cX12_common 10 (some .long)] : List Cond), w ∈ wsX12_told := fun _ h => (List.mem_cons_of_mem _ h)
set_option maxRecDepth 20000 in
theorem ggX12_told_X12_common : GoodIn wsX12_told wsX12_common := (gd_cons (lf_X12_told_1 _ (List.mem_of_getElem? (i := 3) rfl)) rfl (gd_nil _))
set_option maxRecDepth 20000 in
theorem gX12_told_X12_common : GoodIn wsX12_told (va_wsS RX12 193 yX12_common wsX12_common) := goodIn_app (gd_cons (lf_X12_told_1 _ (List.mem_of_getElem? (i := 0) rfl)) rfl (gd_cons (lf_X12_told_1 _ (List.mem_of_getElem? (i := 1) rfl)) rfl (gd_cons (lf_X12_told_1 _ (List.mem_of_getElem? (i := 2) rfl)) rfl (gd_nil _)))) ggX12_told_X12_common
theorem dX12_told_0 : decode cX12_told 0 = .ok (.lload_n 0, 1) := dq_30 (dst 0 rd_prog_14_method_40_code_0 rfl)
theorem dX12_told_1 : decode cX12_told 1 = .ok (.lload_n 2, 1) := dq_32 (dst 1 rd_prog_14_method_40_code_0 rfl)
theorem dX12_told_2 : decode cX12_told 2 = .ok (.invokestatic 193, 3) := dq_184 (dst 2 rd_prog_14_method_40_code_0 rfl) rfl
theorem dX12_told_5 : decode cX12_told 5 = .ok (.lstore 5, 2) := dq_55 (dst 5 rd_prog_14_method_40_code_0 rfl) rfl
theorem dX12_told_7 : decode cX12_told 7 = .ok (.iload 4, 2) := dq_21 (dst 7 rd_prog_14_method_40_code_0 rfl) rfl
theorem dX12_told_9 : decode cX12_told 9 = .ok (.ifCond .eq 10, 3) := dq_153 (dst 9 rd_prog_14_method_40_code_0 rfl) (by decide +kernel)
theorem dX12_told_12 : decode cX12_told 12 = .ok (.lload_n 0, 1) := dq_30 (dst 12 rd_prog_14_method_40_code_0 rfl)
theorem dX12_told_13 : decode cX12_told 13 = .ok (.lload 5, 2) := dq_22 (dst 13 rd_prog_14_method_40_code_0 rfl) rfl
theorem dX12_told_15 : decode cX12_told 15 = .ok (.ldiv, 1) := dq_109 (dst 15 rd_prog_14_method_40_code_0 rfl)
theorem dX12_told_16 : decode cX12_told 16 = .ok (.goto 7, 3) := dq_167 (dst 16 rd_prog_14_method_40_code_0 rfl) (by decide +kernel)
theorem dX12_told_19 : decode cX12_told 19 = .ok (.lload_n 2, 1) := dq_32 (dst 19 rd_prog_14_method_40_code_0 rfl)
theorem dX12_told_20 : decode cX12_told 20 = .ok (.lload 5, 2) := dq_22 (dst 20 rd_prog_14_method_40_code_0 rfl) rfl
theorem dX12_told_22 : decode cX12_told 22 = .ok (.ldiv, 1) := dq_109 (dst 22 rd_prog_14_method_40_code_0 rfl)
theorem dX12_told_23 : decode cX12_told 23 = .ok (.lreturn, 1) := dq_173 (dst 23 rd_prog_14_method_40_code_0 rfl)
theorem lf_X12_sunday_1 : ∀ w ∈ wsX12_sunday_r1, w ∈ wsX12_sunday := fun _ h => (List.mem_cons_of_mem _ (List.mem_append_left _ (List.mem_append_left _ h)))
theorem lf_X12_sunday_2 : ∀ w ∈ wsX12_sunday_r2, w ∈ wsX12_sunday := fun _ h => (List.mem_cons_of_mem _ (List.mem_append_left _ (List.mem_append_right _ h)))
theorem lf_X12_sunday_3 : ∀ w ∈ wsX120, w ∈ wsX12_sunday := fun _ h => (List.mem_cons_of_mem _ (List.mem_append_right _ h))
set_option maxRecDepth 20000 in
theorem ggX12_sunday_X12_isHands : GoodIn wsX12_sunday wsX12_isHands := (gd_cons (lf_X12_sunday_1 _ (List.mem_of_getElem? (i := 6) rfl)) rfl (goodIn_app (gd_cons (lf_X12_sunday_1 _ (List.mem_of_getElem? (i := 7) rfl)) rfl (gd_cons (lf_X12_sunday_1 _ (List.mem_of_getElem? (i := 8) rfl)) rfl (gd_cons (lf_X12_sunday_1 _ (List.mem_of_getElem? (i := 9) rfl)) rfl (gd_cons (lf_X12_sunday_1 _ (List.mem_of_getElem? (i := 10) rfl)) rfl (gd_cons (lf_X12_sunday_1 _ (List.mem_of_getElem? (i := 5) rfl)) rfl (gd_cons (lf_X12_sunday_1 _ (List.mem_of_getElem? (i := 11) rfl)) rfl (gd_cons (lf_X12_sunday_1 _ (List.mem_of_getElem? (i := 12) rfl)) rfl (gd_cons (lf_X12_sunday_1 _ (List.mem_of_getElem? (i := 13) rfl)) rfl (gd_cons (lf_X12_sunday_1 _ (List.mem_of_getElem? (i := 14) rfl)) rfl (gd_nil _)))))))))) (goodIn_sub lf_X12_sunday_3 ga_wsX120)))
set_option maxRecDepth 20000 in
theorem gX12_sunday_X12_isHands : GoodIn wsX12_sunday (wsV RX12 171 RX12 yX12_isHands wsX12_isHands) := goodIn_app (gd_cons (lf_X12_sunday_1 _ (List.mem_of_getElem? (i := 2) rfl)) rfl (gd_cons (lf_X12_sunday_1 _ (List.mem_of_getElem? (i := 3) rfl)) rfl (gd_cons (lf_X12_sunday_1 _ (List.mem_of_getElem? (i := 4) rfl)) rfl (gd_cons (lf_X12_sunday_1 _ (List.mem_of_getElem? (i := 5) rfl)) rfl (gd_nil _))))) ggX12_sunday_X12_isHands
set_option maxRecDepth 20000 in
theorem ggX12_sunday_X12_sundayOf : GoodIn wsX12_sunday wsX12_sundayOf := (gd_cons (lf_X12_sunday_1 _ (List.mem_of_getElem? (i := 18) rfl)) rfl (goodIn_app (gd_cons (lf_X12_sunday_1 _ (List.mem_of_getElem? (i := 19) rfl)) rfl (gd_cons (lf_X12_sunday_1 _ (List.mem_of_getElem? (i := 20) rfl)) rfl (gd_cons (lf_X12_sunday_1 _ (List.mem_of_getElem? (i := 21) rfl)) rfl (gd_cons (lf_X12_sunday_1 _ (List.mem_of_getElem? (i := 5) rfl)) rfl (gd_cons (lf_X12_sunday_1 _ (List.mem_of_getElem? (i := 22) rfl)) rfl (gd_cons (lf_X12_sunday_1 _ (List.mem_of_getElem? (i := 9) rfl)) rfl (gd_cons (lf_X12_sunday_1 _ (List.mem_of_getElem? (i := 10) rfl)) rfl (gd_cons (lf_X12_sunday_1 _ (List.mem_of_getElem? (i := 11) rfl)) rfl (gd_cons (lf_X12_sunday_1 _ (List.mem_of_getElem? (i := 23) rfl)) rfl (gd_cons (lf_X12_sunday_2 _ (List.mem_of_getElem? (i := 0) rfl)) rfl (gd_cons (lf_X12_sunday_2 _ (List.mem_of_getElem? (i := 1) rfl)) rfl (gd_cons (lf_X12_sunday_2 _ (List.mem_of_getElem? (i := 2) rfl)) rfl (gd_cons (lf_X12_sunday_2 _ (List.mem_of_getElem? (i := 3) rfl)) rfl (gd_cons (lf_X12_sunday_2 _ (List.mem_of_getElem? (i := 4) rfl)) rfl (gd_cons (lf_X12_sunday_2 _ (List.mem_of_getElem? (i := 5) rfl)) rfl (gd_cons (lf_X12_sunday_1 _ (List.mem_of_getElem? (i := 8) rfl)) rfl (gd_cons (lf_X12_sunday_2 _ (List.mem_of_getElem? (i := 6) rfl)) rfl (gd_cons (lf_X12_sunday_2 _ (List.mem_of_getElem? (i := 7) rfl)) rfl (gd_cons (lf_X12_sunday_2 _ (List.mem_of_getElem? (i := 8) rfl)) rfl (gd_cons (lf_X12_sunday_1 _ (List.mem_of_getElem? (i := 12) rfl)) rfl (gd_cons (lf_X12_sunday_1 _ (List.mem_of_getElem? (i := 13) rfl)) rfl (gd_cons (lf_X12_sunday_1 _ (List.mem_of_getElem? (i := 14) rfl)) rfl (gd_nil _))))))))))))))))))))))) (goodIn_sub lf_X12_sunday_3 ga_wsX120)))
set_option maxRecDepth 20000 in
theorem gX12_sunday_X12_sundayOf : GoodIn wsX12_sunday (wsV RX12 197 RX12 yX12_sundayOf wsX12_sundayOf) := goodIn_app (gd_cons (lf_X12_sunday_1 _ (List.mem_of_getElem? (i := 15) rfl)) rfl (gd_cons (lf_X12_sunday_1 _ (List.mem_of_getElem? (i := 16) rfl)) rfl (gd_cons (lf_X12_sunday_1 _ (List.mem_of_getElem? (i := 17) rfl)) rfl (gd_cons (lf_X12_sunday_1 _ (List.mem_of_getElem? (i := 5) rfl)) rfl (gd_nil _))))) ggX12_sunday_X12_sundayOf
set_option maxRecDepth 20000 in
theorem ggX12_sunday_X12_told : GoodIn wsX12_sunday wsX12_told := (gd_cons (lf_X12_sunday_2 _ (List.mem_of_getElem? (i := 11) rfl)) rfl (gd_cons (lf_X12_sunday_2 _ (List.mem_of_getElem? (i := 12) rfl)) rfl (gd_cons (lf_X12_sunday_2 _ (List.mem_of_getElem? (i := 13) rfl)) rfl (gd_cons (lf_X12_sunday_1 _ (List.mem_of_getElem? (i := 5) rfl)) rfl (gd_cons (lf_X12_sunday_2 _ (List.mem_of_getElem? (i := 14) rfl)) rfl (gd_nil _))))))
set_option maxRecDepth 20000 in
theorem gX12_sunday_X12_told : GoodIn wsX12_sunday (va_wsS RX12 202 yX12_told wsX12_told) := goodIn_app (gd_cons (lf_X12_sunday_2 _ (List.mem_of_getElem? (i := 9) rfl)) rfl (gd_cons (lf_X12_sunday_2 _ (List.mem_of_getElem? (i := 10) rfl)) rfl (gd_cons (lf_X12_sunday_1 _ (List.mem_of_getElem? (i := 5) rfl)) rfl (gd_nil _)))) ggX12_sunday_X12_told
theorem dX12_sunday_0 : decode cX12_sunday 0 = .ok (.aload_n 0, 1) := dq_42 (dst 0 rd_prog_14_method_41_code_0 rfl)
theorem dX12_sunday_1 : decode cX12_sunday 1 = .ok (.iload_n 1, 1) := dq_27 (dst 1 rd_prog_14_method_41_code_0 rfl)
theorem dX12_sunday_2 : decode cX12_sunday 2 = .ok (.invokevirtual 171, 3) := dq_182 (dst 2 rd_prog_14_method_41_code_0 rfl) rfl
theorem dX12_sunday_5 : decode cX12_sunday 5 = .ok (.ifCond .eq 28, 3) := dq_153 (dst 5 rd_prog_14_method_41_code_0 rfl) (by decide +kernel)
theorem dX12_sunday_8 : decode cX12_sunday 8 = .ok (.aload_n 0, 1) := dq_42 (dst 8 rd_prog_14_method_41_code_0 rfl)
theorem dX12_sunday_9 : decode cX12_sunday 9 = .ok (.iload_n 2, 1) := dq_28 (dst 9 rd_prog_14_method_41_code_0 rfl)
theorem dX12_sunday_10 : decode cX12_sunday 10 = .ok (.invokevirtual 171, 3) := dq_182 (dst 10 rd_prog_14_method_41_code_0 rfl) rfl
theorem dX12_sunday_13 : decode cX12_sunday 13 = .ok (.ifCond .eq 20, 3) := dq_153 (dst 13 rd_prog_14_method_41_code_0 rfl) (by decide +kernel)
theorem dX12_sunday_16 : decode cX12_sunday 16 = .ok (.aload_n 0, 1) := dq_42 (dst 16 rd_prog_14_method_41_code_0 rfl)
theorem dX12_sunday_17 : decode cX12_sunday 17 = .ok (.iload_n 1, 1) := dq_27 (dst 17 rd_prog_14_method_41_code_0 rfl)
theorem dX12_sunday_18 : decode cX12_sunday 18 = .ok (.iload_n 2, 1) := dq_28 (dst 18 rd_prog_14_method_41_code_0 rfl)
theorem dX12_sunday_19 : decode cX12_sunday 19 = .ok (.invokevirtual 197, 3) := dq_182 (dst 19 rd_prog_14_method_41_code_0 rfl) rfl
theorem dX12_sunday_22 : decode cX12_sunday 22 = .ok (.i2l, 1) := dq_133 (dst 22 rd_prog_14_method_41_code_0 rfl)
theorem dX12_sunday_23 : decode cX12_sunday 23 = .ok (.ldc2_w 200, 3) := dq_20 (dst 23 rd_prog_14_method_41_code_0 rfl) rfl
theorem dX12_sunday_26 : decode cX12_sunday 26 = .ok (.iload_n 3, 1) := dq_29 (dst 26 rd_prog_14_method_41_code_0 rfl)
theorem dX12_sunday_27 : decode cX12_sunday 27 = .ok (.invokestatic 202, 3) := dq_184 (dst 27 rd_prog_14_method_41_code_0 rfl) rfl
theorem dX12_sunday_30 : decode cX12_sunday 30 = .ok (.goto 6, 3) := dq_167 (dst 30 rd_prog_14_method_41_code_0 rfl) (by decide +kernel)
theorem dX12_sunday_33 : decode cX12_sunday 33 = .ok (.ldc2_w 206, 3) := dq_20 (dst 1 rd_prog_14_method_41_code_1 rfl) rfl
theorem dX12_sunday_36 : decode cX12_sunday 36 = .ok (.lreturn, 1) := dq_173 (dst 4 rd_prog_14_method_41_code_1 rfl)
theorem lf_X12_ruleAct_1 : ∀ w ∈ ([Cond.fieldLink RX12 19 "StillInAugustModel" "levels" "[I", Cond.fieldLink RX12 13 "StillInAugustModel" "house" "[I", Cond.methodLink RX12 160 yX12_all, Cond.static yX12_all, Cond.initialized RX12, Cond.code yX12_all cX12_all 1 (some .int)] : List Cond), w ∈ wsX12_ruleAct := fun _ h => (List.mem_cons_of_mem _ (List.mem_append_left _ h))
theorem lf_X12_ruleAct_2 : ∀ w ∈ wsX120, w ∈ wsX12_ruleAct := fun _ h => (List.mem_cons_of_mem _ (List.mem_append_right _ h))
set_option maxRecDepth 20000 in
theorem ggX12_ruleAct_X12_all : GoodIn wsX12_ruleAct wsX12_all := (gd_cons (lf_X12_ruleAct_1 _ (List.mem_of_getElem? (i := 5) rfl)) rfl (gd_nil _))
set_option maxRecDepth 20000 in
theorem gX12_ruleAct_X12_all : GoodIn wsX12_ruleAct (va_wsS RX12 160 yX12_all wsX12_all) := goodIn_app (gd_cons (lf_X12_ruleAct_1 _ (List.mem_of_getElem? (i := 2) rfl)) rfl (gd_cons (lf_X12_ruleAct_1 _ (List.mem_of_getElem? (i := 3) rfl)) rfl (gd_cons (lf_X12_ruleAct_1 _ (List.mem_of_getElem? (i := 4) rfl)) rfl (gd_nil _)))) ggX12_ruleAct_X12_all
theorem dX12_ruleAct_0 : decode cX12_ruleAct 0 = .ok (.aload_n 0, 1) := dq_42 (dst 0 rd_prog_14_method_42_code_0 rfl)
theorem dX12_ruleAct_1 : decode cX12_ruleAct 1 = .ok (.getfield 19, 3) := dq_180 (dst 1 rd_prog_14_method_42_code_0 rfl) rfl
theorem dX12_ruleAct_4 : decode cX12_ruleAct 4 = .ok (.iconst 5, 1) := dq_8 (dst 4 rd_prog_14_method_42_code_0 rfl)
theorem dX12_ruleAct_5 : decode cX12_ruleAct 5 = .ok (.iload_n 1, 1) := dq_27 (dst 5 rd_prog_14_method_42_code_0 rfl)
theorem dX12_ruleAct_6 : decode cX12_ruleAct 6 = .ok (.imul, 1) := dq_104 (dst 6 rd_prog_14_method_42_code_0 rfl)
theorem dX12_ruleAct_7 : decode cX12_ruleAct 7 = .ok (.iload_n 2, 1) := dq_28 (dst 7 rd_prog_14_method_42_code_0 rfl)
theorem dX12_ruleAct_8 : decode cX12_ruleAct 8 = .ok (.iadd, 1) := dq_96 (dst 8 rd_prog_14_method_42_code_0 rfl)
theorem dX12_ruleAct_9 : decode cX12_ruleAct 9 = .ok (.iaload, 1) := dq_46 (dst 9 rd_prog_14_method_42_code_0 rfl)
theorem dX12_ruleAct_10 : decode cX12_ruleAct 10 = .ok (.iload_n 3, 1) := dq_29 (dst 10 rd_prog_14_method_42_code_0 rfl)
theorem dX12_ruleAct_11 : decode cX12_ruleAct 11 = .ok (.invokestatic 160, 3) := dq_184 (dst 11 rd_prog_14_method_42_code_0 rfl) rfl
theorem dX12_ruleAct_14 : decode cX12_ruleAct 14 = .ok (.isub, 1) := dq_100 (dst 14 rd_prog_14_method_42_code_0 rfl)
theorem dX12_ruleAct_15 : decode cX12_ruleAct 15 = .ok (.istore 4, 2) := dq_54 (dst 15 rd_prog_14_method_42_code_0 rfl) rfl
theorem dX12_ruleAct_17 : decode cX12_ruleAct 17 = .ok (.aload_n 0, 1) := dq_42 (dst 17 rd_prog_14_method_42_code_0 rfl)
theorem dX12_ruleAct_18 : decode cX12_ruleAct 18 = .ok (.getfield 13, 3) := dq_180 (dst 18 rd_prog_14_method_42_code_0 rfl) rfl
theorem dX12_ruleAct_21 : decode cX12_ruleAct 21 = .ok (.iconst 1, 1) := dq_4 (dst 21 rd_prog_14_method_42_code_0 rfl)
theorem dX12_ruleAct_22 : decode cX12_ruleAct 22 = .ok (.iaload, 1) := dq_46 (dst 22 rd_prog_14_method_42_code_0 rfl)
theorem dX12_ruleAct_23 : decode cX12_ruleAct 23 = .ok (.iload_n 3, 1) := dq_29 (dst 23 rd_prog_14_method_42_code_0 rfl)
theorem dX12_ruleAct_24 : decode cX12_ruleAct 24 = .ok (.invokestatic 160, 3) := dq_184 (dst 24 rd_prog_14_method_42_code_0 rfl) rfl
theorem dX12_ruleAct_27 : decode cX12_ruleAct 27 = .ok (.isub, 1) := dq_100 (dst 27 rd_prog_14_method_42_code_0 rfl)
theorem dX12_ruleAct_28 : decode cX12_ruleAct 28 = .ok (.istore 5, 2) := dq_54 (dst 28 rd_prog_14_method_42_code_0 rfl) rfl
theorem dX12_ruleAct_30 : decode cX12_ruleAct 30 = .ok (.iload 4, 2) := dq_21 (dst 30 rd_prog_14_method_42_code_0 rfl) rfl
theorem dX12_ruleAct_32 : decode cX12_ruleAct 32 = .ok (.aload_n 0, 1) := dq_42 (dst 0 rd_prog_14_method_42_code_1 rfl)
theorem dX12_ruleAct_33 : decode cX12_ruleAct 33 = .ok (.getfield 13, 3) := dq_180 (dst 1 rd_prog_14_method_42_code_1 rfl) rfl
theorem dX12_ruleAct_36 : decode cX12_ruleAct 36 = .ok (.bipush 15, 2) := dq_16 (dst 4 rd_prog_14_method_42_code_1 rfl) (by decide +kernel)
theorem dX12_ruleAct_38 : decode cX12_ruleAct 38 = .ok (.iload_n 2, 1) := dq_28 (dst 6 rd_prog_14_method_42_code_1 rfl)
theorem dX12_ruleAct_39 : decode cX12_ruleAct 39 = .ok (.iadd, 1) := dq_96 (dst 7 rd_prog_14_method_42_code_1 rfl)
theorem dX12_ruleAct_40 : decode cX12_ruleAct 40 = .ok (.iaload, 1) := dq_46 (dst 8 rd_prog_14_method_42_code_1 rfl)
theorem dX12_ruleAct_41 : decode cX12_ruleAct 41 = .ok (.if_icmp .ge 8, 3) := dq_162 (dst 9 rd_prog_14_method_42_code_1 rfl) (by decide +kernel)
theorem dX12_ruleAct_44 : decode cX12_ruleAct 44 = .ok (.iload 4, 2) := dq_21 (dst 12 rd_prog_14_method_42_code_1 rfl) rfl
theorem dX12_ruleAct_46 : decode cX12_ruleAct 46 = .ok (.goto 12, 3) := dq_167 (dst 14 rd_prog_14_method_42_code_1 rfl) (by decide +kernel)
theorem dX12_ruleAct_49 : decode cX12_ruleAct 49 = .ok (.aload_n 0, 1) := dq_42 (dst 17 rd_prog_14_method_42_code_1 rfl)
theorem dX12_ruleAct_50 : decode cX12_ruleAct 50 = .ok (.getfield 13, 3) := dq_180 (dst 18 rd_prog_14_method_42_code_1 rfl) rfl
theorem dX12_ruleAct_53 : decode cX12_ruleAct 53 = .ok (.bipush 15, 2) := dq_16 (dst 21 rd_prog_14_method_42_code_1 rfl) (by decide +kernel)
theorem dX12_ruleAct_55 : decode cX12_ruleAct 55 = .ok (.iload_n 2, 1) := dq_28 (dst 23 rd_prog_14_method_42_code_1 rfl)
theorem dX12_ruleAct_56 : decode cX12_ruleAct 56 = .ok (.iadd, 1) := dq_96 (dst 24 rd_prog_14_method_42_code_1 rfl)
theorem dX12_ruleAct_57 : decode cX12_ruleAct 57 = .ok (.iaload, 1) := dq_46 (dst 25 rd_prog_14_method_42_code_1 rfl)
theorem dX12_ruleAct_58 : decode cX12_ruleAct 58 = .ok (.istore 6, 2) := dq_54 (dst 26 rd_prog_14_method_42_code_1 rfl) rfl
theorem dX12_ruleAct_60 : decode cX12_ruleAct 60 = .ok (.iload 6, 2) := dq_21 (dst 28 rd_prog_14_method_42_code_1 rfl) rfl
theorem dX12_ruleAct_62 : decode cX12_ruleAct 62 = .ok (.iload 5, 2) := dq_21 (dst 30 rd_prog_14_method_42_code_1 rfl) rfl
theorem dX12_ruleAct_64 : decode cX12_ruleAct 64 = .ok (.if_icmp .ge 8, 3) := dq_162 (dst 0 rd_prog_14_method_42_code_2 rfl) (by decide +kernel)
theorem dX12_ruleAct_67 : decode cX12_ruleAct 67 = .ok (.iload 6, 2) := dq_21 (dst 3 rd_prog_14_method_42_code_2 rfl) rfl
theorem dX12_ruleAct_69 : decode cX12_ruleAct 69 = .ok (.goto 5, 3) := dq_167 (dst 5 rd_prog_14_method_42_code_2 rfl) (by decide +kernel)
theorem dX12_ruleAct_72 : decode cX12_ruleAct 72 = .ok (.iload 5, 2) := dq_21 (dst 8 rd_prog_14_method_42_code_2 rfl) rfl
theorem dX12_ruleAct_74 : decode cX12_ruleAct 74 = .ok (.istore 6, 2) := dq_54 (dst 10 rd_prog_14_method_42_code_2 rfl) rfl
theorem dX12_ruleAct_76 : decode cX12_ruleAct 76 = .ok (.iload 6, 2) := dq_21 (dst 12 rd_prog_14_method_42_code_2 rfl) rfl
theorem dX12_ruleAct_78 : decode cX12_ruleAct 78 = .ok (.ifCond .le 11, 3) := dq_158 (dst 14 rd_prog_14_method_42_code_2 rfl) (by decide +kernel)
theorem dX12_ruleAct_81 : decode cX12_ruleAct 81 = .ok (.bipush 100, 2) := dq_16 (dst 17 rd_prog_14_method_42_code_2 rfl) (by decide +kernel)
theorem dX12_ruleAct_83 : decode cX12_ruleAct 83 = .ok (.iload 6, 2) := dq_21 (dst 19 rd_prog_14_method_42_code_2 rfl) rfl
theorem dX12_ruleAct_85 : decode cX12_ruleAct 85 = .ok (.imul, 1) := dq_104 (dst 21 rd_prog_14_method_42_code_2 rfl)
theorem dX12_ruleAct_86 : decode cX12_ruleAct 86 = .ok (.goto 4, 3) := dq_167 (dst 22 rd_prog_14_method_42_code_2 rfl) (by decide +kernel)
theorem dX12_ruleAct_89 : decode cX12_ruleAct 89 = .ok (.iconst 0, 1) := dq_3 (dst 25 rd_prog_14_method_42_code_2 rfl)
theorem dX12_ruleAct_90 : decode cX12_ruleAct 90 = .ok (.ireturn, 1) := dq_172 (dst 26 rd_prog_14_method_42_code_2 rfl)
theorem lf_X12_takes_1 : ∀ w ∈ wsX12_takes_r1, w ∈ wsX12_takes := fun _ h => (List.mem_cons_of_mem _ (List.mem_append_left _ (List.mem_append_left _ h)))
theorem lf_X12_takes_2 : ∀ w ∈ wsX12_takes_r2, w ∈ wsX12_takes := fun _ h => (List.mem_cons_of_mem _ (List.mem_append_left _ (List.mem_append_right _ h)))
theorem lf_X12_takes_3 : ∀ w ∈ wsX120, w ∈ wsX12_takes := fun _ h => (List.mem_cons_of_mem _ (List.mem_append_right _ h))
set_option maxRecDepth 20000 in
theorem ggX12_takes_X12_isRule : GoodIn wsX12_takes wsX12_isRule := (gd_cons (lf_X12_takes_1 _ (List.mem_of_getElem? (i := 3) rfl)) rfl (gd_cons (lf_X12_takes_1 _ (List.mem_of_getElem? (i := 4) rfl)) rfl (gd_cons (lf_X12_takes_1 _ (List.mem_of_getElem? (i := 5) rfl)) rfl (gd_cons (lf_X12_takes_1 _ (List.mem_of_getElem? (i := 6) rfl)) rfl (gd_cons (lf_X12_takes_1 _ (List.mem_of_getElem? (i := 2) rfl)) rfl (gd_cons (lf_X12_takes_1 _ (List.mem_of_getElem? (i := 7) rfl)) rfl (gd_nil _)))))))
set_option maxRecDepth 20000 in
theorem gX12_takes_X12_isRule : GoodIn wsX12_takes (va_wsS RX12 148 yX12_isRule wsX12_isRule) := goodIn_app (gd_cons (lf_X12_takes_1 _ (List.mem_of_getElem? (i := 0) rfl)) rfl (gd_cons (lf_X12_takes_1 _ (List.mem_of_getElem? (i := 1) rfl)) rfl (gd_cons (lf_X12_takes_1 _ (List.mem_of_getElem? (i := 2) rfl)) rfl (gd_nil _)))) ggX12_takes_X12_isRule
set_option maxRecDepth 20000 in
theorem ggX12_takes_X12_isWeek : GoodIn wsX12_takes wsX12_isWeek := (gd_cons (lf_X12_takes_1 _ (List.mem_of_getElem? (i := 11) rfl)) rfl (goodIn_app (gd_cons (lf_X12_takes_1 _ (List.mem_of_getElem? (i := 12) rfl)) rfl (gd_cons (lf_X12_takes_1 _ (List.mem_of_getElem? (i := 5) rfl)) rfl (gd_cons (lf_X12_takes_1 _ (List.mem_of_getElem? (i := 6) rfl)) rfl (gd_cons (lf_X12_takes_1 _ (List.mem_of_getElem? (i := 2) rfl)) rfl (gd_cons (lf_X12_takes_1 _ (List.mem_of_getElem? (i := 7) rfl)) rfl (gd_nil _)))))) (goodIn_sub lf_X12_takes_3 ga_wsX120)))
set_option maxRecDepth 20000 in
theorem gX12_takes_X12_isWeek : GoodIn wsX12_takes (wsV RX12 152 RX12 yX12_isWeek wsX12_isWeek) := goodIn_app (gd_cons (lf_X12_takes_1 _ (List.mem_of_getElem? (i := 8) rfl)) rfl (gd_cons (lf_X12_takes_1 _ (List.mem_of_getElem? (i := 9) rfl)) rfl (gd_cons (lf_X12_takes_1 _ (List.mem_of_getElem? (i := 10) rfl)) rfl (gd_cons (lf_X12_takes_1 _ (List.mem_of_getElem? (i := 2) rfl)) rfl (gd_nil _))))) ggX12_takes_X12_isWeek
set_option maxRecDepth 20000 in
theorem ggX12_takes_X12_isHands : GoodIn wsX12_takes wsX12_isHands := (gd_cons (lf_X12_takes_1 _ (List.mem_of_getElem? (i := 16) rfl)) rfl (goodIn_app (gd_cons (lf_X12_takes_1 _ (List.mem_of_getElem? (i := 17) rfl)) rfl (gd_cons (lf_X12_takes_1 _ (List.mem_of_getElem? (i := 12) rfl)) rfl (gd_cons (lf_X12_takes_1 _ (List.mem_of_getElem? (i := 5) rfl)) rfl (gd_cons (lf_X12_takes_1 _ (List.mem_of_getElem? (i := 6) rfl)) rfl (gd_cons (lf_X12_takes_1 _ (List.mem_of_getElem? (i := 2) rfl)) rfl (gd_cons (lf_X12_takes_1 _ (List.mem_of_getElem? (i := 7) rfl)) rfl (gd_cons (lf_X12_takes_1 _ (List.mem_of_getElem? (i := 18) rfl)) rfl (gd_cons (lf_X12_takes_1 _ (List.mem_of_getElem? (i := 19) rfl)) rfl (gd_cons (lf_X12_takes_1 _ (List.mem_of_getElem? (i := 20) rfl)) rfl (gd_nil _)))))))))) (goodIn_sub lf_X12_takes_3 ga_wsX120)))
set_option maxRecDepth 20000 in
theorem gX12_takes_X12_isHands : GoodIn wsX12_takes (wsV RX12 171 RX12 yX12_isHands wsX12_isHands) := goodIn_app (gd_cons (lf_X12_takes_1 _ (List.mem_of_getElem? (i := 13) rfl)) rfl (gd_cons (lf_X12_takes_1 _ (List.mem_of_getElem? (i := 14) rfl)) rfl (gd_cons (lf_X12_takes_1 _ (List.mem_of_getElem? (i := 15) rfl)) rfl (gd_cons (lf_X12_takes_1 _ (List.mem_of_getElem? (i := 2) rfl)) rfl (gd_nil _))))) ggX12_takes_X12_isHands
set_option maxRecDepth 20000 in
theorem ggX12_takes_X12_ruleAct : GoodIn wsX12_takes wsX12_ruleAct := (gd_cons (lf_X12_takes_2 _ (List.mem_of_getElem? (i := 0) rfl)) rfl (goodIn_app (gd_cons (lf_X12_takes_2 _ (List.mem_of_getElem? (i := 1) rfl)) rfl (gd_cons (lf_X12_takes_1 _ (List.mem_of_getElem? (i := 12) rfl)) rfl (gd_cons (lf_X12_takes_1 _ (List.mem_of_getElem? (i := 18) rfl)) rfl (gd_cons (lf_X12_takes_1 _ (List.mem_of_getElem? (i := 19) rfl)) rfl (gd_cons (lf_X12_takes_1 _ (List.mem_of_getElem? (i := 2) rfl)) rfl (gd_cons (lf_X12_takes_1 _ (List.mem_of_getElem? (i := 20) rfl)) rfl (gd_nil _))))))) (goodIn_sub lf_X12_takes_3 ga_wsX120)))
set_option maxRecDepth 20000 in
theorem gX12_takes_X12_ruleAct : GoodIn wsX12_takes (wsV RX12 208 RX12 yX12_ruleAct wsX12_ruleAct) := goodIn_app (gd_cons (lf_X12_takes_1 _ (List.mem_of_getElem? (i := 21) rfl)) rfl (gd_cons (lf_X12_takes_1 _ (List.mem_of_getElem? (i := 22) rfl)) rfl (gd_cons (lf_X12_takes_1 _ (List.mem_of_getElem? (i := 23) rfl)) rfl (gd_cons (lf_X12_takes_1 _ (List.mem_of_getElem? (i := 2) rfl)) rfl (gd_nil _))))) ggX12_takes_X12_ruleAct
theorem dX12_takes_0 : decode cX12_takes 0 = .ok (.iload_n 1, 1) := dq_27 (dst 0 rd_prog_14_method_43_code_0 rfl)
theorem dX12_takes_1 : decode cX12_takes 1 = .ok (.invokestatic 148, 3) := dq_184 (dst 1 rd_prog_14_method_43_code_0 rfl) rfl
theorem dX12_takes_4 : decode cX12_takes 4 = .ok (.ifCond .eq 11, 3) := dq_153 (dst 4 rd_prog_14_method_43_code_0 rfl) (by decide +kernel)
theorem dX12_takes_7 : decode cX12_takes 7 = .ok (.aload_n 0, 1) := dq_42 (dst 7 rd_prog_14_method_43_code_0 rfl)
theorem dX12_takes_8 : decode cX12_takes 8 = .ok (.iload_n 2, 1) := dq_28 (dst 8 rd_prog_14_method_43_code_0 rfl)
theorem dX12_takes_9 : decode cX12_takes 9 = .ok (.invokevirtual 152, 3) := dq_182 (dst 9 rd_prog_14_method_43_code_0 rfl) rfl
theorem dX12_takes_12 : decode cX12_takes 12 = .ok (.ifCond .ne 5, 3) := dq_154 (dst 12 rd_prog_14_method_43_code_0 rfl) (by decide +kernel)
theorem dX12_takes_15 : decode cX12_takes 15 = .ok (.iconst (-1), 1) := dq_2 (dst 15 rd_prog_14_method_43_code_0 rfl)
theorem dX12_takes_16 : decode cX12_takes 16 = .ok (.ireturn, 1) := dq_172 (dst 16 rd_prog_14_method_43_code_0 rfl)
theorem dX12_takes_17 : decode cX12_takes 17 = .ok (.aload_n 0, 1) := dq_42 (dst 17 rd_prog_14_method_43_code_0 rfl)
theorem dX12_takes_18 : decode cX12_takes 18 = .ok (.iload_n 3, 1) := dq_29 (dst 18 rd_prog_14_method_43_code_0 rfl)
theorem dX12_takes_19 : decode cX12_takes 19 = .ok (.invokevirtual 171, 3) := dq_182 (dst 19 rd_prog_14_method_43_code_0 rfl) rfl
theorem dX12_takes_22 : decode cX12_takes 22 = .ok (.ifCond .eq 16, 3) := dq_153 (dst 22 rd_prog_14_method_43_code_0 rfl) (by decide +kernel)
theorem dX12_takes_25 : decode cX12_takes 25 = .ok (.aload_n 0, 1) := dq_42 (dst 25 rd_prog_14_method_43_code_0 rfl)
theorem dX12_takes_26 : decode cX12_takes 26 = .ok (.iload_n 1, 1) := dq_27 (dst 26 rd_prog_14_method_43_code_0 rfl)
theorem dX12_takes_27 : decode cX12_takes 27 = .ok (.iload_n 2, 1) := dq_28 (dst 27 rd_prog_14_method_43_code_0 rfl)
theorem dX12_takes_28 : decode cX12_takes 28 = .ok (.iload_n 3, 1) := dq_29 (dst 28 rd_prog_14_method_43_code_0 rfl)
theorem dX12_takes_29 : decode cX12_takes 29 = .ok (.invokevirtual 208, 3) := dq_182 (dst 29 rd_prog_14_method_43_code_0 rfl) rfl
theorem dX12_takes_32 : decode cX12_takes 32 = .ok (.bipush 100, 2) := dq_16 (dst 0 rd_prog_14_method_43_code_1 rfl) (by decide +kernel)
theorem dX12_takes_34 : decode cX12_takes 34 = .ok (.idiv, 1) := dq_108 (dst 2 rd_prog_14_method_43_code_1 rfl)
theorem dX12_takes_35 : decode cX12_takes 35 = .ok (.goto 5, 3) := dq_167 (dst 3 rd_prog_14_method_43_code_1 rfl) (by decide +kernel)
theorem dX12_takes_38 : decode cX12_takes 38 = .ok (.bipush (-2), 2) := dq_16 (dst 6 rd_prog_14_method_43_code_1 rfl) (by decide +kernel)
theorem dX12_takes_40 : decode cX12_takes 40 = .ok (.ireturn, 1) := dq_172 (dst 8 rd_prog_14_method_43_code_1 rfl)
theorem dX12_parts_0 : decode cX12_parts 0 = .ok (.lconst 1, 1) := dq_10 (dst 0 rd_prog_14_method_44_code_0 rfl)
theorem dX12_parts_1 : decode cX12_parts 1 = .ok (.lstore_n 1, 1) := dq_64 (dst 1 rd_prog_14_method_44_code_0 rfl)
theorem dX12_parts_2 : decode cX12_parts 2 = .ok (.iconst 0, 1) := dq_3 (dst 2 rd_prog_14_method_44_code_0 rfl)
theorem dX12_parts_3 : decode cX12_parts 3 = .ok (.istore_n 3, 1) := dq_62 (dst 3 rd_prog_14_method_44_code_0 rfl)
theorem dX12_parts_4 : decode cX12_parts 4 = .ok (.iload_n 3, 1) := dq_29 (dst 4 rd_prog_14_method_44_code_0 rfl)
theorem dX12_parts_5 : decode cX12_parts 5 = .ok (.iload_n 0, 1) := dq_26 (dst 5 rd_prog_14_method_44_code_0 rfl)
theorem dX12_parts_6 : decode cX12_parts 6 = .ok (.if_icmp .ge 15, 3) := dq_162 (dst 6 rd_prog_14_method_44_code_0 rfl) (by decide +kernel)
theorem dX12_parts_9 : decode cX12_parts 9 = .ok (.lload_n 1, 1) := dq_31 (dst 9 rd_prog_14_method_44_code_0 rfl)
theorem dX12_parts_10 : decode cX12_parts 10 = .ok (.ldc2_w 200, 3) := dq_20 (dst 10 rd_prog_14_method_44_code_0 rfl) rfl
theorem dX12_parts_13 : decode cX12_parts 13 = .ok (.lmul, 1) := dq_105 (dst 13 rd_prog_14_method_44_code_0 rfl)
theorem dX12_parts_14 : decode cX12_parts 14 = .ok (.lstore_n 1, 1) := dq_64 (dst 14 rd_prog_14_method_44_code_0 rfl)
theorem dX12_parts_15 : decode cX12_parts 15 = .ok (.iinc 3 1, 3) := dq_132 (dst 15 rd_prog_14_method_44_code_0 rfl) rfl (by decide +kernel)
theorem dX12_parts_18 : decode cX12_parts 18 = .ok (.goto (-14), 3) := dq_167 (dst 18 rd_prog_14_method_44_code_0 rfl) (by decide +kernel)
theorem dX12_parts_21 : decode cX12_parts 21 = .ok (.lload_n 1, 1) := dq_31 (dst 21 rd_prog_14_method_44_code_0 rfl)
theorem dX12_parts_22 : decode cX12_parts 22 = .ok (.lreturn, 1) := dq_173 (dst 22 rd_prog_14_method_44_code_0 rfl)
theorem lf_X12_bonus_1 : ∀ w ∈ ([Cond.fieldLink RX12 13 "StillInAugustModel" "house" "[I", Cond.methodLink RX12 160 yX12_all, Cond.static yX12_all, Cond.initialized RX12, Cond.code yX12_all cX12_all 1 (some .int)] : List Cond), w ∈ wsX12_bonus := fun _ h => (List.mem_cons_of_mem _ (List.mem_append_left _ h))
theorem lf_X12_bonus_2 : ∀ w ∈ wsX120, w ∈ wsX12_bonus := fun _ h => (List.mem_cons_of_mem _ (List.mem_append_right _ h))
set_option maxRecDepth 20000 in
theorem ggX12_bonus_X12_all : GoodIn wsX12_bonus wsX12_all := (gd_cons (lf_X12_bonus_1 _ (List.mem_of_getElem? (i := 4) rfl)) rfl (gd_nil _))
set_option maxRecDepth 20000 in
theorem gX12_bonus_X12_all : GoodIn wsX12_bonus (va_wsS RX12 160 yX12_all wsX12_all) := goodIn_app (gd_cons (lf_X12_bonus_1 _ (List.mem_of_getElem? (i := 1) rfl)) rfl (gd_cons (lf_X12_bonus_1 _ (List.mem_of_getElem? (i := 2) rfl)) rfl (gd_cons (lf_X12_bonus_1 _ (List.mem_of_getElem? (i := 3) rfl)) rfl (gd_nil _)))) ggX12_bonus_X12_all
theorem dX12_bonus_0 : decode cX12_bonus 0 = .ok (.aload_n 0, 1) := dq_42 (dst 0 rd_prog_14_method_45_code_0 rfl)
theorem dX12_bonus_1 : decode cX12_bonus 1 = .ok (.getfield 13, 3) := dq_180 (dst 1 rd_prog_14_method_45_code_0 rfl) rfl
theorem dX12_bonus_4 : decode cX12_bonus 4 = .ok (.bipush 7, 2) := dq_16 (dst 4 rd_prog_14_method_45_code_0 rfl) (by decide +kernel)
theorem dX12_bonus_6 : decode cX12_bonus 6 = .ok (.iaload, 1) := dq_46 (dst 6 rd_prog_14_method_45_code_0 rfl)
theorem dX12_bonus_7 : decode cX12_bonus 7 = .ok (.bipush (-9), 2) := dq_16 (dst 7 rd_prog_14_method_45_code_0 rfl) (by decide +kernel)
theorem dX12_bonus_9 : decode cX12_bonus 9 = .ok (.if_icmp .ne 7, 3) := dq_160 (dst 9 rd_prog_14_method_45_code_0 rfl) (by decide +kernel)
theorem dX12_bonus_12 : decode cX12_bonus 12 = .ok (.iconst 0, 1) := dq_3 (dst 12 rd_prog_14_method_45_code_0 rfl)
theorem dX12_bonus_13 : decode cX12_bonus 13 = .ok (.goto 15, 3) := dq_167 (dst 13 rd_prog_14_method_45_code_0 rfl) (by decide +kernel)
theorem dX12_bonus_16 : decode cX12_bonus 16 = .ok (.aload_n 0, 1) := dq_42 (dst 16 rd_prog_14_method_45_code_0 rfl)
theorem dX12_bonus_17 : decode cX12_bonus 17 = .ok (.getfield 13, 3) := dq_180 (dst 17 rd_prog_14_method_45_code_0 rfl) rfl
theorem dX12_bonus_20 : decode cX12_bonus 20 = .ok (.bipush 7, 2) := dq_16 (dst 20 rd_prog_14_method_45_code_0 rfl) (by decide +kernel)
theorem dX12_bonus_22 : decode cX12_bonus 22 = .ok (.iaload, 1) := dq_46 (dst 22 rd_prog_14_method_45_code_0 rfl)
theorem dX12_bonus_23 : decode cX12_bonus 23 = .ok (.iload_n 1, 1) := dq_27 (dst 23 rd_prog_14_method_45_code_0 rfl)
theorem dX12_bonus_24 : decode cX12_bonus 24 = .ok (.invokestatic 160, 3) := dq_184 (dst 24 rd_prog_14_method_45_code_0 rfl) rfl
theorem dX12_bonus_27 : decode cX12_bonus 27 = .ok (.imul, 1) := dq_104 (dst 27 rd_prog_14_method_45_code_0 rfl)
theorem dX12_bonus_28 : decode cX12_bonus 28 = .ok (.ireturn, 1) := dq_172 (dst 28 rd_prog_14_method_45_code_0 rfl)
theorem lf_X12_onward_1 : ∀ w ∈ wsX12_onward_r1, w ∈ wsX12_onward := fun _ h => (List.mem_cons_of_mem _ (List.mem_append_left _ (List.mem_append_left _ h)))
theorem lf_X12_onward_2 : ∀ w ∈ wsX12_onward_r2, w ∈ wsX12_onward := fun _ h => (List.mem_cons_of_mem _ (List.mem_append_left _ (List.mem_append_right _ h)))
theorem lf_X12_onward_3 : ∀ w ∈ wsX120, w ∈ wsX12_onward := fun _ h => (List.mem_cons_of_mem _ (List.mem_append_right _ h))
set_option maxRecDepth 20000 in
theorem ggX12_onward_X12_isHands : GoodIn wsX12_onward wsX12_isHands := (gd_cons (lf_X12_onward_1 _ (List.mem_of_getElem? (i := 5) rfl)) rfl (goodIn_app (gd_cons (lf_X12_onward_1 _ (List.mem_of_getElem? (i := 6) rfl)) rfl (gd_cons (lf_X12_onward_1 _ (List.mem_of_getElem? (i := 7) rfl)) rfl (gd_cons (lf_X12_onward_1 _ (List.mem_of_getElem? (i := 8) rfl)) rfl (gd_cons (lf_X12_onward_1 _ (List.mem_of_getElem? (i := 9) rfl)) rfl (gd_cons (lf_X12_onward_1 _ (List.mem_of_getElem? (i := 4) rfl)) rfl (gd_cons (lf_X12_onward_1 _ (List.mem_of_getElem? (i := 10) rfl)) rfl (gd_cons (lf_X12_onward_1 _ (List.mem_of_getElem? (i := 11) rfl)) rfl (gd_cons (lf_X12_onward_1 _ (List.mem_of_getElem? (i := 12) rfl)) rfl (gd_cons (lf_X12_onward_1 _ (List.mem_of_getElem? (i := 13) rfl)) rfl (gd_nil _)))))))))) (goodIn_sub lf_X12_onward_3 ga_wsX120)))
set_option maxRecDepth 20000 in
theorem gX12_onward_X12_isHands : GoodIn wsX12_onward (wsV RX12 171 RX12 yX12_isHands wsX12_isHands) := goodIn_app (gd_cons (lf_X12_onward_1 _ (List.mem_of_getElem? (i := 1) rfl)) rfl (gd_cons (lf_X12_onward_1 _ (List.mem_of_getElem? (i := 2) rfl)) rfl (gd_cons (lf_X12_onward_1 _ (List.mem_of_getElem? (i := 3) rfl)) rfl (gd_cons (lf_X12_onward_1 _ (List.mem_of_getElem? (i := 4) rfl)) rfl (gd_nil _))))) ggX12_onward_X12_isHands
set_option maxRecDepth 20000 in
theorem ggX12_onward_X12_sundayOf : GoodIn wsX12_onward wsX12_sundayOf := (gd_cons (lf_X12_onward_1 _ (List.mem_of_getElem? (i := 17) rfl)) rfl (goodIn_app (gd_cons (lf_X12_onward_1 _ (List.mem_of_getElem? (i := 18) rfl)) rfl (gd_cons (lf_X12_onward_1 _ (List.mem_of_getElem? (i := 19) rfl)) rfl (gd_cons (lf_X12_onward_1 _ (List.mem_of_getElem? (i := 20) rfl)) rfl (gd_cons (lf_X12_onward_1 _ (List.mem_of_getElem? (i := 4) rfl)) rfl (gd_cons (lf_X12_onward_1 _ (List.mem_of_getElem? (i := 21) rfl)) rfl (gd_cons (lf_X12_onward_1 _ (List.mem_of_getElem? (i := 8) rfl)) rfl (gd_cons (lf_X12_onward_1 _ (List.mem_of_getElem? (i := 9) rfl)) rfl (gd_cons (lf_X12_onward_1 _ (List.mem_of_getElem? (i := 10) rfl)) rfl (gd_cons (lf_X12_onward_1 _ (List.mem_of_getElem? (i := 22) rfl)) rfl (gd_cons (lf_X12_onward_1 _ (List.mem_of_getElem? (i := 23) rfl)) rfl (gd_cons (lf_X12_onward_2 _ (List.mem_of_getElem? (i := 0) rfl)) rfl (gd_cons (lf_X12_onward_2 _ (List.mem_of_getElem? (i := 1) rfl)) rfl (gd_cons (lf_X12_onward_2 _ (List.mem_of_getElem? (i := 2) rfl)) rfl (gd_cons (lf_X12_onward_2 _ (List.mem_of_getElem? (i := 3) rfl)) rfl (gd_cons (lf_X12_onward_2 _ (List.mem_of_getElem? (i := 4) rfl)) rfl (gd_cons (lf_X12_onward_1 _ (List.mem_of_getElem? (i := 7) rfl)) rfl (gd_cons (lf_X12_onward_2 _ (List.mem_of_getElem? (i := 5) rfl)) rfl (gd_cons (lf_X12_onward_2 _ (List.mem_of_getElem? (i := 6) rfl)) rfl (gd_cons (lf_X12_onward_2 _ (List.mem_of_getElem? (i := 7) rfl)) rfl (gd_cons (lf_X12_onward_1 _ (List.mem_of_getElem? (i := 11) rfl)) rfl (gd_cons (lf_X12_onward_1 _ (List.mem_of_getElem? (i := 12) rfl)) rfl (gd_cons (lf_X12_onward_1 _ (List.mem_of_getElem? (i := 13) rfl)) rfl (gd_nil _))))))))))))))))))))))) (goodIn_sub lf_X12_onward_3 ga_wsX120)))
set_option maxRecDepth 20000 in
theorem gX12_onward_X12_sundayOf : GoodIn wsX12_onward (wsV RX12 197 RX12 yX12_sundayOf wsX12_sundayOf) := goodIn_app (gd_cons (lf_X12_onward_1 _ (List.mem_of_getElem? (i := 14) rfl)) rfl (gd_cons (lf_X12_onward_1 _ (List.mem_of_getElem? (i := 15) rfl)) rfl (gd_cons (lf_X12_onward_1 _ (List.mem_of_getElem? (i := 16) rfl)) rfl (gd_cons (lf_X12_onward_1 _ (List.mem_of_getElem? (i := 4) rfl)) rfl (gd_nil _))))) ggX12_onward_X12_sundayOf
theorem dX12_onward_0 : decode cX12_onward 0 = .ok (.lconst 0, 1) := dq_9 (dst 0 rd_prog_14_method_46_code_0 rfl)
theorem dX12_onward_1 : decode cX12_onward 1 = .ok (.lstore_n 2, 1) := dq_65 (dst 1 rd_prog_14_method_46_code_0 rfl)
theorem dX12_onward_2 : decode cX12_onward 2 = .ok (.iconst 0, 1) := dq_3 (dst 2 rd_prog_14_method_46_code_0 rfl)
theorem dX12_onward_3 : decode cX12_onward 3 = .ok (.istore 4, 2) := dq_54 (dst 3 rd_prog_14_method_46_code_0 rfl) rfl
theorem dX12_onward_5 : decode cX12_onward 5 = .ok (.iload 4, 2) := dq_21 (dst 5 rd_prog_14_method_46_code_0 rfl) rfl
theorem dX12_onward_7 : decode cX12_onward 7 = .ok (.bipush 50, 2) := dq_16 (dst 7 rd_prog_14_method_46_code_0 rfl) (by decide +kernel)
theorem dX12_onward_9 : decode cX12_onward 9 = .ok (.if_icmp .ge 41, 3) := dq_162 (dst 9 rd_prog_14_method_46_code_0 rfl) (by decide +kernel)
theorem dX12_onward_12 : decode cX12_onward 12 = .ok (.lload_n 2, 1) := dq_32 (dst 12 rd_prog_14_method_46_code_0 rfl)
theorem dX12_onward_13 : decode cX12_onward 13 = .ok (.aload_n 0, 1) := dq_42 (dst 13 rd_prog_14_method_46_code_0 rfl)
theorem dX12_onward_14 : decode cX12_onward 14 = .ok (.iload 4, 2) := dq_21 (dst 14 rd_prog_14_method_46_code_0 rfl) rfl
theorem dX12_onward_16 : decode cX12_onward 16 = .ok (.invokevirtual 171, 3) := dq_182 (dst 16 rd_prog_14_method_46_code_0 rfl) rfl
theorem dX12_onward_19 : decode cX12_onward 19 = .ok (.ifCond .eq 22, 3) := dq_153 (dst 19 rd_prog_14_method_46_code_0 rfl) (by decide +kernel)
theorem dX12_onward_22 : decode cX12_onward 22 = .ok (.aload_n 0, 1) := dq_42 (dst 22 rd_prog_14_method_46_code_0 rfl)
theorem dX12_onward_23 : decode cX12_onward 23 = .ok (.iload_n 1, 1) := dq_27 (dst 23 rd_prog_14_method_46_code_0 rfl)
theorem dX12_onward_24 : decode cX12_onward 24 = .ok (.iload 4, 2) := dq_21 (dst 24 rd_prog_14_method_46_code_0 rfl) rfl
theorem dX12_onward_26 : decode cX12_onward 26 = .ok (.invokevirtual 197, 3) := dq_182 (dst 26 rd_prog_14_method_46_code_0 rfl) rfl
theorem dX12_onward_29 : decode cX12_onward 29 = .ok (.i2l, 1) := dq_133 (dst 29 rd_prog_14_method_46_code_0 rfl)
theorem dX12_onward_30 : decode cX12_onward 30 = .ok (.aload_n 0, 1) := dq_42 (dst 30 rd_prog_14_method_46_code_0 rfl)
theorem dX12_onward_31 : decode cX12_onward 31 = .ok (.getfield 25, 3) := dq_180 (dst 31 rd_prog_14_method_46_code_0 rfl) rfl
theorem dX12_onward_34 : decode cX12_onward 34 = .ok (.iload 4, 2) := dq_21 (dst 2 rd_prog_14_method_46_code_1 rfl) rfl
theorem dX12_onward_36 : decode cX12_onward 36 = .ok (.laload, 1) := dq_47 (dst 4 rd_prog_14_method_46_code_1 rfl)
theorem dX12_onward_37 : decode cX12_onward 37 = .ok (.lmul, 1) := dq_105 (dst 5 rd_prog_14_method_46_code_1 rfl)
theorem dX12_onward_38 : decode cX12_onward 38 = .ok (.goto 4, 3) := dq_167 (dst 6 rd_prog_14_method_46_code_1 rfl) (by decide +kernel)
theorem dX12_onward_41 : decode cX12_onward 41 = .ok (.lconst 0, 1) := dq_9 (dst 9 rd_prog_14_method_46_code_1 rfl)
theorem dX12_onward_42 : decode cX12_onward 42 = .ok (.ladd, 1) := dq_97 (dst 10 rd_prog_14_method_46_code_1 rfl)
theorem dX12_onward_43 : decode cX12_onward 43 = .ok (.lstore_n 2, 1) := dq_65 (dst 11 rd_prog_14_method_46_code_1 rfl)
theorem dX12_onward_44 : decode cX12_onward 44 = .ok (.iinc 4 1, 3) := dq_132 (dst 12 rd_prog_14_method_46_code_1 rfl) rfl (by decide +kernel)
theorem dX12_onward_47 : decode cX12_onward 47 = .ok (.goto (-42), 3) := dq_167 (dst 15 rd_prog_14_method_46_code_1 rfl) (by decide +kernel)
theorem dX12_onward_50 : decode cX12_onward 50 = .ok (.lload_n 2, 1) := dq_32 (dst 18 rd_prog_14_method_46_code_1 rfl)
theorem dX12_onward_51 : decode cX12_onward 51 = .ok (.lreturn, 1) := dq_173 (dst 19 rd_prog_14_method_46_code_1 rfl)
theorem lf_X12_layMean_1 : ∀ w ∈ wsX12_layMean_r1, w ∈ wsX12_layMean := fun _ h => (List.mem_cons_of_mem _ (List.mem_append_left _ (List.mem_append_left _ h)))
theorem lf_X12_layMean_2 : ∀ w ∈ wsX12_layMean_r2, w ∈ wsX12_layMean := fun _ h => (List.mem_cons_of_mem _ (List.mem_append_left _ (List.mem_append_right _ (List.mem_append_left _ h))))
theorem lf_X12_layMean_3 : ∀ w ∈ wsX12_layMean_r3, w ∈ wsX12_layMean := fun _ h => (List.mem_cons_of_mem _ (List.mem_append_left _ (List.mem_append_right _ (List.mem_append_right _ h))))
theorem lf_X12_layMean_4 : ∀ w ∈ wsX120, w ∈ wsX12_layMean := fun _ h => (List.mem_cons_of_mem _ (List.mem_append_right _ h))
set_option maxRecDepth 20000 in
theorem ggX12_layMean_X12_isHands : GoodIn wsX12_layMean wsX12_isHands := (gd_cons (lf_X12_layMean_1 _ (List.mem_of_getElem? (i := 7) rfl)) rfl (goodIn_app (gd_cons (lf_X12_layMean_1 _ (List.mem_of_getElem? (i := 8) rfl)) rfl (gd_cons (lf_X12_layMean_1 _ (List.mem_of_getElem? (i := 1) rfl)) rfl (gd_cons (lf_X12_layMean_1 _ (List.mem_of_getElem? (i := 9) rfl)) rfl (gd_cons (lf_X12_layMean_1 _ (List.mem_of_getElem? (i := 10) rfl)) rfl (gd_cons (lf_X12_layMean_1 _ (List.mem_of_getElem? (i := 6) rfl)) rfl (gd_cons (lf_X12_layMean_1 _ (List.mem_of_getElem? (i := 11) rfl)) rfl (gd_cons (lf_X12_layMean_1 _ (List.mem_of_getElem? (i := 12) rfl)) rfl (gd_cons (lf_X12_layMean_1 _ (List.mem_of_getElem? (i := 13) rfl)) rfl (gd_cons (lf_X12_layMean_1 _ (List.mem_of_getElem? (i := 14) rfl)) rfl (gd_nil _)))))))))) (goodIn_sub lf_X12_layMean_4 ga_wsX120)))
set_option maxRecDepth 20000 in
theorem gX12_layMean_X12_isHands : GoodIn wsX12_layMean (wsV RX12 171 RX12 yX12_isHands wsX12_isHands) := goodIn_app (gd_cons (lf_X12_layMean_1 _ (List.mem_of_getElem? (i := 3) rfl)) rfl (gd_cons (lf_X12_layMean_1 _ (List.mem_of_getElem? (i := 4) rfl)) rfl (gd_cons (lf_X12_layMean_1 _ (List.mem_of_getElem? (i := 5) rfl)) rfl (gd_cons (lf_X12_layMean_1 _ (List.mem_of_getElem? (i := 6) rfl)) rfl (gd_nil _))))) ggX12_layMean_X12_isHands
set_option maxRecDepth 20000 in
theorem ggX12_layMean_X12_bonus : GoodIn wsX12_layMean wsX12_bonus := (gd_cons (lf_X12_layMean_1 _ (List.mem_of_getElem? (i := 18) rfl)) rfl (goodIn_app (gd_cons (lf_X12_layMean_1 _ (List.mem_of_getElem? (i := 1) rfl)) rfl (gd_cons (lf_X12_layMean_1 _ (List.mem_of_getElem? (i := 12) rfl)) rfl (gd_cons (lf_X12_layMean_1 _ (List.mem_of_getElem? (i := 13) rfl)) rfl (gd_cons (lf_X12_layMean_1 _ (List.mem_of_getElem? (i := 6) rfl)) rfl (gd_cons (lf_X12_layMean_1 _ (List.mem_of_getElem? (i := 14) rfl)) rfl (gd_nil _)))))) (goodIn_sub lf_X12_layMean_4 ga_wsX120)))
set_option maxRecDepth 20000 in
theorem gX12_layMean_X12_bonus : GoodIn wsX12_layMean (wsV RX12 211 RX12 yX12_bonus wsX12_bonus) := goodIn_app (gd_cons (lf_X12_layMean_1 _ (List.mem_of_getElem? (i := 15) rfl)) rfl (gd_cons (lf_X12_layMean_1 _ (List.mem_of_getElem? (i := 16) rfl)) rfl (gd_cons (lf_X12_layMean_1 _ (List.mem_of_getElem? (i := 17) rfl)) rfl (gd_cons (lf_X12_layMean_1 _ (List.mem_of_getElem? (i := 6) rfl)) rfl (gd_nil _))))) ggX12_layMean_X12_bonus
set_option maxRecDepth 20000 in
theorem ggX12_layMean_X12_ruleAct : GoodIn wsX12_layMean wsX12_ruleAct := (gd_cons (lf_X12_layMean_1 _ (List.mem_of_getElem? (i := 22) rfl)) rfl (goodIn_app (gd_cons (lf_X12_layMean_1 _ (List.mem_of_getElem? (i := 23) rfl)) rfl (gd_cons (lf_X12_layMean_1 _ (List.mem_of_getElem? (i := 1) rfl)) rfl (gd_cons (lf_X12_layMean_1 _ (List.mem_of_getElem? (i := 12) rfl)) rfl (gd_cons (lf_X12_layMean_1 _ (List.mem_of_getElem? (i := 13) rfl)) rfl (gd_cons (lf_X12_layMean_1 _ (List.mem_of_getElem? (i := 6) rfl)) rfl (gd_cons (lf_X12_layMean_1 _ (List.mem_of_getElem? (i := 14) rfl)) rfl (gd_nil _))))))) (goodIn_sub lf_X12_layMean_4 ga_wsX120)))
set_option maxRecDepth 20000 in
theorem gX12_layMean_X12_ruleAct : GoodIn wsX12_layMean (wsV RX12 208 RX12 yX12_ruleAct wsX12_ruleAct) := goodIn_app (gd_cons (lf_X12_layMean_1 _ (List.mem_of_getElem? (i := 19) rfl)) rfl (gd_cons (lf_X12_layMean_1 _ (List.mem_of_getElem? (i := 20) rfl)) rfl (gd_cons (lf_X12_layMean_1 _ (List.mem_of_getElem? (i := 21) rfl)) rfl (gd_cons (lf_X12_layMean_1 _ (List.mem_of_getElem? (i := 6) rfl)) rfl (gd_nil _))))) ggX12_layMean_X12_ruleAct
set_option maxRecDepth 20000 in
theorem ggX12_layMean_X12_after : GoodIn wsX12_layMean wsX12_after := (gd_cons (lf_X12_layMean_2 _ (List.mem_of_getElem? (i := 3) rfl)) rfl (goodIn_app (gd_cons (lf_X12_layMean_1 _ (List.mem_of_getElem? (i := 1) rfl)) rfl (gd_cons (lf_X12_layMean_1 _ (List.mem_of_getElem? (i := 12) rfl)) rfl (gd_cons (lf_X12_layMean_1 _ (List.mem_of_getElem? (i := 13) rfl)) rfl (gd_cons (lf_X12_layMean_1 _ (List.mem_of_getElem? (i := 6) rfl)) rfl (gd_cons (lf_X12_layMean_1 _ (List.mem_of_getElem? (i := 14) rfl)) rfl (gd_cons (lf_X12_layMean_2 _ (List.mem_of_getElem? (i := 4) rfl)) rfl (gd_cons (lf_X12_layMean_2 _ (List.mem_of_getElem? (i := 5) rfl)) rfl (gd_cons (lf_X12_layMean_2 _ (List.mem_of_getElem? (i := 6) rfl)) rfl (gd_nil _))))))))) (goodIn_sub lf_X12_layMean_4 ga_wsX120)))
set_option maxRecDepth 20000 in
theorem gX12_layMean_X12_after : GoodIn wsX12_layMean (wsV RX12 174 RX12 yX12_after wsX12_after) := goodIn_app (gd_cons (lf_X12_layMean_2 _ (List.mem_of_getElem? (i := 0) rfl)) rfl (gd_cons (lf_X12_layMean_2 _ (List.mem_of_getElem? (i := 1) rfl)) rfl (gd_cons (lf_X12_layMean_2 _ (List.mem_of_getElem? (i := 2) rfl)) rfl (gd_cons (lf_X12_layMean_1 _ (List.mem_of_getElem? (i := 6) rfl)) rfl (gd_nil _))))) ggX12_layMean_X12_after
set_option maxRecDepth 20000 in
theorem ggX12_layMean_X12_costOf : GoodIn wsX12_layMean wsX12_costOf := (gd_cons (lf_X12_layMean_2 _ (List.mem_of_getElem? (i := 10) rfl)) rfl (goodIn_app (gd_cons (lf_X12_layMean_1 _ (List.mem_of_getElem? (i := 1) rfl)) rfl (gd_cons (lf_X12_layMean_2 _ (List.mem_of_getElem? (i := 11) rfl)) rfl (gd_cons (lf_X12_layMean_2 _ (List.mem_of_getElem? (i := 12) rfl)) rfl (gd_cons (lf_X12_layMean_2 _ (List.mem_of_getElem? (i := 13) rfl)) rfl (gd_cons (lf_X12_layMean_1 _ (List.mem_of_getElem? (i := 6) rfl)) rfl (gd_cons (lf_X12_layMean_2 _ (List.mem_of_getElem? (i := 14) rfl)) rfl (gd_cons (lf_X12_layMean_1 _ (List.mem_of_getElem? (i := 12) rfl)) rfl (gd_cons (lf_X12_layMean_1 _ (List.mem_of_getElem? (i := 13) rfl)) rfl (gd_cons (lf_X12_layMean_1 _ (List.mem_of_getElem? (i := 14) rfl)) rfl (gd_nil _)))))))))) (goodIn_sub lf_X12_layMean_4 ga_wsX120)))
set_option maxRecDepth 20000 in
theorem gX12_layMean_X12_costOf : GoodIn wsX12_layMean (wsV RX12 181 RX12 yX12_costOf wsX12_costOf) := goodIn_app (gd_cons (lf_X12_layMean_2 _ (List.mem_of_getElem? (i := 7) rfl)) rfl (gd_cons (lf_X12_layMean_2 _ (List.mem_of_getElem? (i := 8) rfl)) rfl (gd_cons (lf_X12_layMean_2 _ (List.mem_of_getElem? (i := 9) rfl)) rfl (gd_cons (lf_X12_layMean_1 _ (List.mem_of_getElem? (i := 6) rfl)) rfl (gd_nil _))))) ggX12_layMean_X12_costOf
set_option maxRecDepth 20000 in
theorem ggX12_layMean_X12_parts : GoodIn wsX12_layMean wsX12_parts := (gd_cons (lf_X12_layMean_2 _ (List.mem_of_getElem? (i := 17) rfl)) rfl (gd_cons (lf_X12_layMean_2 _ (List.mem_of_getElem? (i := 18) rfl)) rfl (gd_nil _)))
set_option maxRecDepth 20000 in
theorem gX12_layMean_X12_parts : GoodIn wsX12_layMean (va_wsS RX12 214 yX12_parts wsX12_parts) := goodIn_app (gd_cons (lf_X12_layMean_2 _ (List.mem_of_getElem? (i := 15) rfl)) rfl (gd_cons (lf_X12_layMean_2 _ (List.mem_of_getElem? (i := 16) rfl)) rfl (gd_cons (lf_X12_layMean_1 _ (List.mem_of_getElem? (i := 6) rfl)) rfl (gd_nil _)))) ggX12_layMean_X12_parts
set_option maxRecDepth 20000 in
theorem ggX12_layMean_X12_onward : GoodIn wsX12_layMean wsX12_onward := (gd_cons (lf_X12_layMean_2 _ (List.mem_of_getElem? (i := 22) rfl)) rfl (goodIn_app (goodIn_app (gd_cons (lf_X12_layMean_1 _ (List.mem_of_getElem? (i := 0) rfl)) rfl (gd_cons (lf_X12_layMean_1 _ (List.mem_of_getElem? (i := 3) rfl)) rfl (gd_cons (lf_X12_layMean_1 _ (List.mem_of_getElem? (i := 4) rfl)) rfl (gd_cons (lf_X12_layMean_1 _ (List.mem_of_getElem? (i := 5) rfl)) rfl (gd_cons (lf_X12_layMean_1 _ (List.mem_of_getElem? (i := 6) rfl)) rfl (gd_cons (lf_X12_layMean_1 _ (List.mem_of_getElem? (i := 7) rfl)) rfl (gd_cons (lf_X12_layMean_1 _ (List.mem_of_getElem? (i := 8) rfl)) rfl (gd_cons (lf_X12_layMean_1 _ (List.mem_of_getElem? (i := 1) rfl)) rfl (gd_cons (lf_X12_layMean_1 _ (List.mem_of_getElem? (i := 9) rfl)) rfl (gd_cons (lf_X12_layMean_1 _ (List.mem_of_getElem? (i := 10) rfl)) rfl (gd_cons (lf_X12_layMean_1 _ (List.mem_of_getElem? (i := 11) rfl)) rfl (gd_cons (lf_X12_layMean_1 _ (List.mem_of_getElem? (i := 12) rfl)) rfl (gd_cons (lf_X12_layMean_1 _ (List.mem_of_getElem? (i := 13) rfl)) rfl (gd_cons (lf_X12_layMean_1 _ (List.mem_of_getElem? (i := 14) rfl)) rfl (gd_cons (lf_X12_layMean_2 _ (List.mem_of_getElem? (i := 23) rfl)) rfl (gd_cons (lf_X12_layMean_3 _ (List.mem_of_getElem? (i := 0) rfl)) rfl (gd_cons (lf_X12_layMean_3 _ (List.mem_of_getElem? (i := 1) rfl)) rfl (gd_cons (lf_X12_layMean_3 _ (List.mem_of_getElem? (i := 2) rfl)) rfl (gd_cons (lf_X12_layMean_3 _ (List.mem_of_getElem? (i := 3) rfl)) rfl (gd_cons (lf_X12_layMean_3 _ (List.mem_of_getElem? (i := 4) rfl)) rfl (gd_cons (lf_X12_layMean_3 _ (List.mem_of_getElem? (i := 5) rfl)) rfl (gd_cons (lf_X12_layMean_3 _ (List.mem_of_getElem? (i := 6) rfl)) rfl (gd_cons (lf_X12_layMean_3 _ (List.mem_of_getElem? (i := 7) rfl)) rfl (gd_cons (lf_X12_layMean_3 _ (List.mem_of_getElem? (i := 8) rfl)) rfl (gd_nil _))))))))))))))))))))))))) (gd_cons (lf_X12_layMean_3 _ (List.mem_of_getElem? (i := 9) rfl)) rfl (gd_cons (lf_X12_layMean_3 _ (List.mem_of_getElem? (i := 10) rfl)) rfl (gd_cons (lf_X12_layMean_3 _ (List.mem_of_getElem? (i := 11) rfl)) rfl (gd_cons (lf_X12_layMean_3 _ (List.mem_of_getElem? (i := 12) rfl)) rfl (gd_cons (lf_X12_layMean_3 _ (List.mem_of_getElem? (i := 13) rfl)) rfl (gd_cons (lf_X12_layMean_3 _ (List.mem_of_getElem? (i := 14) rfl)) rfl (gd_cons (lf_X12_layMean_3 _ (List.mem_of_getElem? (i := 15) rfl)) rfl (gd_cons (lf_X12_layMean_3 _ (List.mem_of_getElem? (i := 16) rfl)) rfl (gd_nil _)))))))))) (goodIn_sub lf_X12_layMean_4 ga_wsX120)))
set_option maxRecDepth 20000 in
theorem gX12_layMean_X12_onward : GoodIn wsX12_layMean (wsV RX12 218 RX12 yX12_onward wsX12_onward) := goodIn_app (gd_cons (lf_X12_layMean_2 _ (List.mem_of_getElem? (i := 19) rfl)) rfl (gd_cons (lf_X12_layMean_2 _ (List.mem_of_getElem? (i := 20) rfl)) rfl (gd_cons (lf_X12_layMean_2 _ (List.mem_of_getElem? (i := 21) rfl)) rfl (gd_cons (lf_X12_layMean_1 _ (List.mem_of_getElem? (i := 6) rfl)) rfl (gd_nil _))))) ggX12_layMean_X12_onward
theorem dX12_layMean_0 : decode cX12_layMean 0 = .ok (.iconst 0, 1) := dq_3 (dst 0 rd_prog_14_method_47_code_0 rfl)
theorem dX12_layMean_1 : decode cX12_layMean 1 = .ok (.istore 5, 2) := dq_54 (dst 1 rd_prog_14_method_47_code_0 rfl) rfl
theorem dX12_layMean_3 : decode cX12_layMean 3 = .ok (.iload 5, 2) := dq_21 (dst 3 rd_prog_14_method_47_code_0 rfl) rfl
theorem dX12_layMean_5 : decode cX12_layMean 5 = .ok (.sipush 1000, 3) := dq_17 (dst 5 rd_prog_14_method_47_code_0 rfl) (by decide +kernel)
theorem dX12_layMean_8 : decode cX12_layMean 8 = .ok (.if_icmp .ge 36, 3) := dq_162 (dst 8 rd_prog_14_method_47_code_0 rfl) (by decide +kernel)
theorem dX12_layMean_11 : decode cX12_layMean 11 = .ok (.aload_n 0, 1) := dq_42 (dst 11 rd_prog_14_method_47_code_0 rfl)
theorem dX12_layMean_12 : decode cX12_layMean 12 = .ok (.getfield 25, 3) := dq_180 (dst 12 rd_prog_14_method_47_code_0 rfl) rfl
theorem dX12_layMean_15 : decode cX12_layMean 15 = .ok (.iload 5, 2) := dq_21 (dst 15 rd_prog_14_method_47_code_0 rfl) rfl
theorem dX12_layMean_17 : decode cX12_layMean 17 = .ok (.aload_n 0, 1) := dq_42 (dst 17 rd_prog_14_method_47_code_0 rfl)
theorem dX12_layMean_18 : decode cX12_layMean 18 = .ok (.iload 5, 2) := dq_21 (dst 18 rd_prog_14_method_47_code_0 rfl) rfl
theorem dX12_layMean_20 : decode cX12_layMean 20 = .ok (.invokevirtual 171, 3) := dq_182 (dst 20 rd_prog_14_method_47_code_0 rfl) rfl
theorem dX12_layMean_23 : decode cX12_layMean 23 = .ok (.ifCond .eq 13, 3) := dq_153 (dst 23 rd_prog_14_method_47_code_0 rfl) (by decide +kernel)
theorem dX12_layMean_26 : decode cX12_layMean 26 = .ok (.aload_n 0, 1) := dq_42 (dst 26 rd_prog_14_method_47_code_0 rfl)
theorem dX12_layMean_27 : decode cX12_layMean 27 = .ok (.iload 5, 2) := dq_21 (dst 27 rd_prog_14_method_47_code_0 rfl) rfl
theorem dX12_layMean_29 : decode cX12_layMean 29 = .ok (.invokevirtual 211, 3) := dq_182 (dst 29 rd_prog_14_method_47_code_0 rfl) rfl
theorem dX12_layMean_32 : decode cX12_layMean 32 = .ok (.i2l, 1) := dq_133 (dst 0 rd_prog_14_method_47_code_1 rfl)
theorem dX12_layMean_33 : decode cX12_layMean 33 = .ok (.goto 4, 3) := dq_167 (dst 1 rd_prog_14_method_47_code_1 rfl) (by decide +kernel)
theorem dX12_layMean_36 : decode cX12_layMean 36 = .ok (.lconst 0, 1) := dq_9 (dst 4 rd_prog_14_method_47_code_1 rfl)
theorem dX12_layMean_37 : decode cX12_layMean 37 = .ok (.lastore, 1) := dq_80 (dst 5 rd_prog_14_method_47_code_1 rfl)
theorem dX12_layMean_38 : decode cX12_layMean 38 = .ok (.iinc 5 1, 3) := dq_132 (dst 6 rd_prog_14_method_47_code_1 rfl) rfl (by decide +kernel)
theorem dX12_layMean_41 : decode cX12_layMean 41 = .ok (.goto (-38), 3) := dq_167 (dst 9 rd_prog_14_method_47_code_1 rfl) (by decide +kernel)
theorem dX12_layMean_44 : decode cX12_layMean 44 = .ok (.aload_n 0, 1) := dq_42 (dst 12 rd_prog_14_method_47_code_1 rfl)
theorem dX12_layMean_45 : decode cX12_layMean 45 = .ok (.getfield 13, 3) := dq_180 (dst 13 rd_prog_14_method_47_code_1 rfl) rfl
theorem dX12_layMean_48 : decode cX12_layMean 48 = .ok (.iconst 0, 1) := dq_3 (dst 16 rd_prog_14_method_47_code_1 rfl)
theorem dX12_layMean_49 : decode cX12_layMean 49 = .ok (.iaload, 1) := dq_46 (dst 17 rd_prog_14_method_47_code_1 rfl)
theorem dX12_layMean_50 : decode cX12_layMean 50 = .ok (.iconst 1, 1) := dq_4 (dst 18 rd_prog_14_method_47_code_1 rfl)
theorem dX12_layMean_51 : decode cX12_layMean 51 = .ok (.isub, 1) := dq_100 (dst 19 rd_prog_14_method_47_code_1 rfl)
theorem dX12_layMean_52 : decode cX12_layMean 52 = .ok (.istore 5, 2) := dq_54 (dst 20 rd_prog_14_method_47_code_1 rfl) rfl
theorem dX12_layMean_54 : decode cX12_layMean 54 = .ok (.iload 5, 2) := dq_21 (dst 22 rd_prog_14_method_47_code_1 rfl) rfl
theorem dX12_layMean_56 : decode cX12_layMean 56 = .ok (.iload_n 2, 1) := dq_28 (dst 24 rd_prog_14_method_47_code_1 rfl)
theorem dX12_layMean_57 : decode cX12_layMean 57 = .ok (.if_icmp .lt 139, 3) := dq_161 (dst 25 rd_prog_14_method_47_code_1 rfl) (by decide +kernel)
theorem dX12_layMean_60 : decode cX12_layMean 60 = .ok (.iconst 0, 1) := dq_3 (dst 28 rd_prog_14_method_47_code_1 rfl)
theorem dX12_layMean_61 : decode cX12_layMean 61 = .ok (.istore 6, 2) := dq_54 (dst 29 rd_prog_14_method_47_code_1 rfl) rfl
theorem dX12_layMean_63 : decode cX12_layMean 63 = .ok (.iload 6, 2) := dq_21 (dst 31 rd_prog_14_method_47_code_1 rfl) rfl
theorem dX12_layMean_65 : decode cX12_layMean 65 = .ok (.sipush 500, 3) := dq_17 (dst 1 rd_prog_14_method_47_code_2 rfl) (by decide +kernel)
theorem dX12_layMean_68 : decode cX12_layMean 68 = .ok (.if_icmp .ge 91, 3) := dq_162 (dst 4 rd_prog_14_method_47_code_2 rfl) (by decide +kernel)
theorem dX12_layMean_71 : decode cX12_layMean 71 = .ok (.aload_n 0, 1) := dq_42 (dst 7 rd_prog_14_method_47_code_2 rfl)
theorem dX12_layMean_72 : decode cX12_layMean 72 = .ok (.iload 6, 2) := dq_21 (dst 8 rd_prog_14_method_47_code_2 rfl) rfl
theorem dX12_layMean_74 : decode cX12_layMean 74 = .ok (.invokevirtual 171, 3) := dq_182 (dst 10 rd_prog_14_method_47_code_2 rfl) rfl
theorem dX12_layMean_77 : decode cX12_layMean 77 = .ok (.ifCond .eq 76, 3) := dq_153 (dst 13 rd_prog_14_method_47_code_2 rfl) (by decide +kernel)
theorem dX12_layMean_80 : decode cX12_layMean 80 = .ok (.aload_n 0, 1) := dq_42 (dst 16 rd_prog_14_method_47_code_2 rfl)
theorem dX12_layMean_81 : decode cX12_layMean 81 = .ok (.iload_n 1, 1) := dq_27 (dst 17 rd_prog_14_method_47_code_2 rfl)
theorem dX12_layMean_82 : decode cX12_layMean 82 = .ok (.iload 5, 2) := dq_21 (dst 18 rd_prog_14_method_47_code_2 rfl) rfl
theorem dX12_layMean_84 : decode cX12_layMean 84 = .ok (.iload 6, 2) := dq_21 (dst 20 rd_prog_14_method_47_code_2 rfl) rfl
theorem dX12_layMean_86 : decode cX12_layMean 86 = .ok (.invokevirtual 208, 3) := dq_182 (dst 22 rd_prog_14_method_47_code_2 rfl) rfl
theorem dX12_layMean_89 : decode cX12_layMean 89 = .ok (.istore 7, 2) := dq_54 (dst 25 rd_prog_14_method_47_code_2 rfl) rfl
theorem dX12_layMean_91 : decode cX12_layMean 91 = .ok (.aload_n 0, 1) := dq_42 (dst 27 rd_prog_14_method_47_code_2 rfl)
theorem dX12_layMean_92 : decode cX12_layMean 92 = .ok (.iload 5, 2) := dq_21 (dst 28 rd_prog_14_method_47_code_2 rfl) rfl
theorem dX12_layMean_94 : decode cX12_layMean 94 = .ok (.iload 6, 2) := dq_21 (dst 30 rd_prog_14_method_47_code_2 rfl) rfl
theorem dX12_layMean_96 : decode cX12_layMean 96 = .ok (.iload 7, 2) := dq_21 (dst 0 rd_prog_14_method_47_code_3 rfl) rfl
theorem dX12_layMean_98 : decode cX12_layMean 98 = .ok (.invokevirtual 174, 3) := dq_182 (dst 2 rd_prog_14_method_47_code_3 rfl) rfl
theorem dX12_layMean_101 : decode cX12_layMean 101 = .ok (.istore 8, 2) := dq_54 (dst 5 rd_prog_14_method_47_code_3 rfl) rfl
theorem dX12_layMean_103 : decode cX12_layMean 103 = .ok (.aload_n 0, 1) := dq_42 (dst 7 rd_prog_14_method_47_code_3 rfl)
theorem dX12_layMean_104 : decode cX12_layMean 104 = .ok (.getfield 29, 3) := dq_180 (dst 8 rd_prog_14_method_47_code_3 rfl) rfl
theorem dX12_layMean_107 : decode cX12_layMean 107 = .ok (.iload 6, 2) := dq_21 (dst 11 rd_prog_14_method_47_code_3 rfl) rfl
theorem dX12_layMean_109 : decode cX12_layMean 109 = .ok (.aload_n 0, 1) := dq_42 (dst 13 rd_prog_14_method_47_code_3 rfl)
theorem dX12_layMean_110 : decode cX12_layMean 110 = .ok (.iload 5, 2) := dq_21 (dst 14 rd_prog_14_method_47_code_3 rfl) rfl
theorem dX12_layMean_112 : decode cX12_layMean 112 = .ok (.iload 8, 2) := dq_21 (dst 16 rd_prog_14_method_47_code_3 rfl) rfl
theorem dX12_layMean_114 : decode cX12_layMean 114 = .ok (.iload 5, 2) := dq_21 (dst 18 rd_prog_14_method_47_code_3 rfl) rfl
theorem dX12_layMean_116 : decode cX12_layMean 116 = .ok (.iload_n 2, 1) := dq_28 (dst 20 rd_prog_14_method_47_code_3 rfl)
theorem dX12_layMean_117 : decode cX12_layMean 117 = .ok (.if_icmp .ne 8, 3) := dq_160 (dst 21 rd_prog_14_method_47_code_3 rfl) (by decide +kernel)
theorem dX12_layMean_120 : decode cX12_layMean 120 = .ok (.iload 4, 2) := dq_21 (dst 24 rd_prog_14_method_47_code_3 rfl) rfl
theorem dX12_layMean_122 : decode cX12_layMean 122 = .ok (.goto 4, 3) := dq_167 (dst 26 rd_prog_14_method_47_code_3 rfl) (by decide +kernel)
theorem dX12_layMean_125 : decode cX12_layMean 125 = .ok (.iconst 0, 1) := dq_3 (dst 29 rd_prog_14_method_47_code_3 rfl)
theorem dX12_layMean_126 : decode cX12_layMean 126 = .ok (.iload 7, 2) := dq_21 (dst 30 rd_prog_14_method_47_code_3 rfl) rfl
theorem dX12_layMean_128 : decode cX12_layMean 128 = .ok (.invokevirtual 181, 3) := dq_182 (dst 0 rd_prog_14_method_47_code_4 rfl) rfl
theorem dX12_layMean_131 : decode cX12_layMean 131 = .ok (.i2l, 1) := dq_133 (dst 3 rd_prog_14_method_47_code_4 rfl)
theorem dX12_layMean_132 : decode cX12_layMean 132 = .ok (.aload_n 0, 1) := dq_42 (dst 4 rd_prog_14_method_47_code_4 rfl)
theorem dX12_layMean_133 : decode cX12_layMean 133 = .ok (.getfield 13, 3) := dq_180 (dst 5 rd_prog_14_method_47_code_4 rfl) rfl
theorem dX12_layMean_136 : decode cX12_layMean 136 = .ok (.iconst 0, 1) := dq_3 (dst 8 rd_prog_14_method_47_code_4 rfl)
theorem dX12_layMean_137 : decode cX12_layMean 137 = .ok (.iaload, 1) := dq_46 (dst 9 rd_prog_14_method_47_code_4 rfl)
theorem dX12_layMean_138 : decode cX12_layMean 138 = .ok (.iload 5, 2) := dq_21 (dst 10 rd_prog_14_method_47_code_4 rfl) rfl
theorem dX12_layMean_140 : decode cX12_layMean 140 = .ok (.isub, 1) := dq_100 (dst 12 rd_prog_14_method_47_code_4 rfl)
theorem dX12_layMean_141 : decode cX12_layMean 141 = .ok (.invokestatic 214, 3) := dq_184 (dst 13 rd_prog_14_method_47_code_4 rfl) rfl
theorem dX12_layMean_144 : decode cX12_layMean 144 = .ok (.lmul, 1) := dq_105 (dst 16 rd_prog_14_method_47_code_4 rfl)
theorem dX12_layMean_145 : decode cX12_layMean 145 = .ok (.aload_n 0, 1) := dq_42 (dst 17 rd_prog_14_method_47_code_4 rfl)
theorem dX12_layMean_146 : decode cX12_layMean 146 = .ok (.iload 8, 2) := dq_21 (dst 18 rd_prog_14_method_47_code_4 rfl) rfl
theorem dX12_layMean_148 : decode cX12_layMean 148 = .ok (.invokevirtual 218, 3) := dq_182 (dst 20 rd_prog_14_method_47_code_4 rfl) rfl
theorem dX12_layMean_151 : decode cX12_layMean 151 = .ok (.ladd, 1) := dq_97 (dst 23 rd_prog_14_method_47_code_4 rfl)
theorem dX12_layMean_152 : decode cX12_layMean 152 = .ok (.lastore, 1) := dq_80 (dst 24 rd_prog_14_method_47_code_4 rfl)
theorem dX12_layMean_153 : decode cX12_layMean 153 = .ok (.iinc 6 1, 3) := dq_132 (dst 25 rd_prog_14_method_47_code_4 rfl) rfl (by decide +kernel)
theorem dX12_layMean_156 : decode cX12_layMean 156 = .ok (.goto (-93), 3) := dq_167 (dst 28 rd_prog_14_method_47_code_4 rfl) (by decide +kernel)
theorem dX12_layMean_159 : decode cX12_layMean 159 = .ok (.iconst 0, 1) := dq_3 (dst 31 rd_prog_14_method_47_code_4 rfl)
theorem dX12_layMean_160 : decode cX12_layMean 160 = .ok (.istore 6, 2) := dq_54 (dst 0 rd_prog_14_method_47_code_5 rfl) rfl
theorem dX12_layMean_162 : decode cX12_layMean 162 = .ok (.iload 6, 2) := dq_21 (dst 2 rd_prog_14_method_47_code_5 rfl) rfl
theorem dX12_layMean_164 : decode cX12_layMean 164 = .ok (.sipush 500, 3) := dq_17 (dst 4 rd_prog_14_method_47_code_5 rfl) (by decide +kernel)
theorem dX12_layMean_167 : decode cX12_layMean 167 = .ok (.if_icmp .ge 23, 3) := dq_162 (dst 7 rd_prog_14_method_47_code_5 rfl) (by decide +kernel)
theorem dX12_layMean_170 : decode cX12_layMean 170 = .ok (.aload_n 0, 1) := dq_42 (dst 10 rd_prog_14_method_47_code_5 rfl)
theorem dX12_layMean_171 : decode cX12_layMean 171 = .ok (.getfield 25, 3) := dq_180 (dst 11 rd_prog_14_method_47_code_5 rfl) rfl
theorem dX12_layMean_174 : decode cX12_layMean 174 = .ok (.iload 6, 2) := dq_21 (dst 14 rd_prog_14_method_47_code_5 rfl) rfl
theorem dX12_layMean_176 : decode cX12_layMean 176 = .ok (.aload_n 0, 1) := dq_42 (dst 16 rd_prog_14_method_47_code_5 rfl)
theorem dX12_layMean_177 : decode cX12_layMean 177 = .ok (.getfield 29, 3) := dq_180 (dst 17 rd_prog_14_method_47_code_5 rfl) rfl
theorem dX12_layMean_180 : decode cX12_layMean 180 = .ok (.iload 6, 2) := dq_21 (dst 20 rd_prog_14_method_47_code_5 rfl) rfl
theorem dX12_layMean_182 : decode cX12_layMean 182 = .ok (.laload, 1) := dq_47 (dst 22 rd_prog_14_method_47_code_5 rfl)
theorem dX12_layMean_183 : decode cX12_layMean 183 = .ok (.lastore, 1) := dq_80 (dst 23 rd_prog_14_method_47_code_5 rfl)
theorem dX12_layMean_184 : decode cX12_layMean 184 = .ok (.iinc 6 1, 3) := dq_132 (dst 24 rd_prog_14_method_47_code_5 rfl) rfl (by decide +kernel)
theorem dX12_layMean_187 : decode cX12_layMean 187 = .ok (.goto (-25), 3) := dq_167 (dst 27 rd_prog_14_method_47_code_5 rfl) (by decide +kernel)
theorem dX12_layMean_190 : decode cX12_layMean 190 = .ok (.iinc 5 (-1), 3) := dq_132 (dst 30 rd_prog_14_method_47_code_5 rfl) rfl (by decide +kernel)
theorem dX12_layMean_193 : decode cX12_layMean 193 = .ok (.goto (-139), 3) := dq_167 (dst 1 rd_prog_14_method_47_code_6 rfl) (by decide +kernel)
theorem dX12_layMean_196 : decode cX12_layMean 196 = .ok (.aload_n 0, 1) := dq_42 (dst 4 rd_prog_14_method_47_code_6 rfl)
theorem dX12_layMean_197 : decode cX12_layMean 197 = .ok (.getfield 25, 3) := dq_180 (dst 5 rd_prog_14_method_47_code_6 rfl) rfl
theorem dX12_layMean_200 : decode cX12_layMean 200 = .ok (.iload_n 3, 1) := dq_29 (dst 8 rd_prog_14_method_47_code_6 rfl)
theorem dX12_layMean_201 : decode cX12_layMean 201 = .ok (.laload, 1) := dq_47 (dst 9 rd_prog_14_method_47_code_6 rfl)
theorem dX12_layMean_202 : decode cX12_layMean 202 = .ok (.lreturn, 1) := dq_173 (dst 10 rd_prog_14_method_47_code_6 rfl)
theorem lf_X12_mean_1 : ∀ w ∈ wsX12_mean_r1, w ∈ wsX12_mean := fun _ h => (List.mem_cons_of_mem _ (List.mem_append_left _ (List.mem_append_left _ h)))
theorem lf_X12_mean_2 : ∀ w ∈ wsX12_mean_r2, w ∈ wsX12_mean := fun _ h => (List.mem_cons_of_mem _ (List.mem_append_left _ (List.mem_append_right _ (List.mem_append_left _ h))))
theorem lf_X12_mean_3 : ∀ w ∈ wsX12_mean_r3, w ∈ wsX12_mean := fun _ h => (List.mem_cons_of_mem _ (List.mem_append_left _ (List.mem_append_right _ (List.mem_append_right _ (List.mem_append_left _ h)))))
theorem lf_X12_mean_4 : ∀ w ∈ wsX12_mean_r4, w ∈ wsX12_mean := fun _ h => (List.mem_cons_of_mem _ (List.mem_append_left _ (List.mem_append_right _ (List.mem_append_right _ (List.mem_append_right _ h)))))
theorem lf_X12_mean_5 : ∀ w ∈ wsX120, w ∈ wsX12_mean := fun _ h => (List.mem_cons_of_mem _ (List.mem_append_right _ h))
set_option maxRecDepth 20000 in
theorem ggX12_mean_X12_isRule : GoodIn wsX12_mean wsX12_isRule := (gd_cons (lf_X12_mean_1 _ (List.mem_of_getElem? (i := 6) rfl)) rfl (gd_cons (lf_X12_mean_1 _ (List.mem_of_getElem? (i := 7) rfl)) rfl (gd_cons (lf_X12_mean_1 _ (List.mem_of_getElem? (i := 8) rfl)) rfl (gd_cons (lf_X12_mean_1 _ (List.mem_of_getElem? (i := 9) rfl)) rfl (gd_cons (lf_X12_mean_1 _ (List.mem_of_getElem? (i := 5) rfl)) rfl (gd_cons (lf_X12_mean_1 _ (List.mem_of_getElem? (i := 10) rfl)) rfl (gd_nil _)))))))
set_option maxRecDepth 20000 in
theorem gX12_mean_X12_isRule : GoodIn wsX12_mean (va_wsS RX12 148 yX12_isRule wsX12_isRule) := goodIn_app (gd_cons (lf_X12_mean_1 _ (List.mem_of_getElem? (i := 3) rfl)) rfl (gd_cons (lf_X12_mean_1 _ (List.mem_of_getElem? (i := 4) rfl)) rfl (gd_cons (lf_X12_mean_1 _ (List.mem_of_getElem? (i := 5) rfl)) rfl (gd_nil _)))) ggX12_mean_X12_isRule
set_option maxRecDepth 20000 in
theorem ggX12_mean_X12_isWeek : GoodIn wsX12_mean wsX12_isWeek := (gd_cons (lf_X12_mean_1 _ (List.mem_of_getElem? (i := 14) rfl)) rfl (goodIn_app (gd_cons (lf_X12_mean_1 _ (List.mem_of_getElem? (i := 2) rfl)) rfl (gd_cons (lf_X12_mean_1 _ (List.mem_of_getElem? (i := 8) rfl)) rfl (gd_cons (lf_X12_mean_1 _ (List.mem_of_getElem? (i := 9) rfl)) rfl (gd_cons (lf_X12_mean_1 _ (List.mem_of_getElem? (i := 5) rfl)) rfl (gd_cons (lf_X12_mean_1 _ (List.mem_of_getElem? (i := 10) rfl)) rfl (gd_nil _)))))) (goodIn_sub lf_X12_mean_5 ga_wsX120)))
set_option maxRecDepth 20000 in
theorem gX12_mean_X12_isWeek : GoodIn wsX12_mean (wsV RX12 152 RX12 yX12_isWeek wsX12_isWeek) := goodIn_app (gd_cons (lf_X12_mean_1 _ (List.mem_of_getElem? (i := 11) rfl)) rfl (gd_cons (lf_X12_mean_1 _ (List.mem_of_getElem? (i := 12) rfl)) rfl (gd_cons (lf_X12_mean_1 _ (List.mem_of_getElem? (i := 13) rfl)) rfl (gd_cons (lf_X12_mean_1 _ (List.mem_of_getElem? (i := 5) rfl)) rfl (gd_nil _))))) ggX12_mean_X12_isWeek
set_option maxRecDepth 20000 in
theorem ggX12_mean_X12_isHands : GoodIn wsX12_mean wsX12_isHands := (gd_cons (lf_X12_mean_1 _ (List.mem_of_getElem? (i := 18) rfl)) rfl (goodIn_app (gd_cons (lf_X12_mean_1 _ (List.mem_of_getElem? (i := 19) rfl)) rfl (gd_cons (lf_X12_mean_1 _ (List.mem_of_getElem? (i := 2) rfl)) rfl (gd_cons (lf_X12_mean_1 _ (List.mem_of_getElem? (i := 8) rfl)) rfl (gd_cons (lf_X12_mean_1 _ (List.mem_of_getElem? (i := 9) rfl)) rfl (gd_cons (lf_X12_mean_1 _ (List.mem_of_getElem? (i := 5) rfl)) rfl (gd_cons (lf_X12_mean_1 _ (List.mem_of_getElem? (i := 10) rfl)) rfl (gd_cons (lf_X12_mean_1 _ (List.mem_of_getElem? (i := 20) rfl)) rfl (gd_cons (lf_X12_mean_1 _ (List.mem_of_getElem? (i := 21) rfl)) rfl (gd_cons (lf_X12_mean_1 _ (List.mem_of_getElem? (i := 22) rfl)) rfl (gd_nil _)))))))))) (goodIn_sub lf_X12_mean_5 ga_wsX120)))
set_option maxRecDepth 20000 in
theorem gX12_mean_X12_isHands : GoodIn wsX12_mean (wsV RX12 171 RX12 yX12_isHands wsX12_isHands) := goodIn_app (gd_cons (lf_X12_mean_1 _ (List.mem_of_getElem? (i := 15) rfl)) rfl (gd_cons (lf_X12_mean_1 _ (List.mem_of_getElem? (i := 16) rfl)) rfl (gd_cons (lf_X12_mean_1 _ (List.mem_of_getElem? (i := 17) rfl)) rfl (gd_cons (lf_X12_mean_1 _ (List.mem_of_getElem? (i := 5) rfl)) rfl (gd_nil _))))) ggX12_mean_X12_isHands
set_option maxRecDepth 20000 in
theorem ggX12_mean_X12_isComing : GoodIn wsX12_mean wsX12_isComing := (gd_cons (lf_X12_mean_2 _ (List.mem_of_getElem? (i := 2) rfl)) rfl (goodIn_app (gd_cons (lf_X12_mean_1 _ (List.mem_of_getElem? (i := 2) rfl)) rfl (gd_cons (lf_X12_mean_1 _ (List.mem_of_getElem? (i := 7) rfl)) rfl (gd_cons (lf_X12_mean_1 _ (List.mem_of_getElem? (i := 8) rfl)) rfl (gd_cons (lf_X12_mean_1 _ (List.mem_of_getElem? (i := 9) rfl)) rfl (gd_cons (lf_X12_mean_1 _ (List.mem_of_getElem? (i := 5) rfl)) rfl (gd_cons (lf_X12_mean_1 _ (List.mem_of_getElem? (i := 10) rfl)) rfl (gd_nil _))))))) (goodIn_sub lf_X12_mean_5 ga_wsX120)))
set_option maxRecDepth 20000 in
theorem gX12_mean_X12_isComing : GoodIn wsX12_mean (wsV RX12 178 RX12 yX12_isComing wsX12_isComing) := goodIn_app (gd_cons (lf_X12_mean_1 _ (List.mem_of_getElem? (i := 23) rfl)) rfl (gd_cons (lf_X12_mean_2 _ (List.mem_of_getElem? (i := 0) rfl)) rfl (gd_cons (lf_X12_mean_2 _ (List.mem_of_getElem? (i := 1) rfl)) rfl (gd_cons (lf_X12_mean_1 _ (List.mem_of_getElem? (i := 5) rfl)) rfl (gd_nil _))))) ggX12_mean_X12_isComing
set_option maxRecDepth 20000 in
theorem ggX12_mean_X12_layMean : GoodIn wsX12_mean wsX12_layMean := (gd_cons (lf_X12_mean_2 _ (List.mem_of_getElem? (i := 6) rfl)) rfl (goodIn_app (goodIn_app (gd_cons (lf_X12_mean_2 _ (List.mem_of_getElem? (i := 7) rfl)) rfl (gd_cons (lf_X12_mean_1 _ (List.mem_of_getElem? (i := 2) rfl)) rfl (gd_cons (lf_X12_mean_2 _ (List.mem_of_getElem? (i := 8) rfl)) rfl (gd_cons (lf_X12_mean_1 _ (List.mem_of_getElem? (i := 15) rfl)) rfl (gd_cons (lf_X12_mean_1 _ (List.mem_of_getElem? (i := 16) rfl)) rfl (gd_cons (lf_X12_mean_1 _ (List.mem_of_getElem? (i := 17) rfl)) rfl (gd_cons (lf_X12_mean_1 _ (List.mem_of_getElem? (i := 5) rfl)) rfl (gd_cons (lf_X12_mean_1 _ (List.mem_of_getElem? (i := 18) rfl)) rfl (gd_cons (lf_X12_mean_1 _ (List.mem_of_getElem? (i := 19) rfl)) rfl (gd_cons (lf_X12_mean_1 _ (List.mem_of_getElem? (i := 8) rfl)) rfl (gd_cons (lf_X12_mean_1 _ (List.mem_of_getElem? (i := 9) rfl)) rfl (gd_cons (lf_X12_mean_1 _ (List.mem_of_getElem? (i := 10) rfl)) rfl (gd_cons (lf_X12_mean_1 _ (List.mem_of_getElem? (i := 20) rfl)) rfl (gd_cons (lf_X12_mean_1 _ (List.mem_of_getElem? (i := 21) rfl)) rfl (gd_cons (lf_X12_mean_1 _ (List.mem_of_getElem? (i := 22) rfl)) rfl (gd_cons (lf_X12_mean_2 _ (List.mem_of_getElem? (i := 9) rfl)) rfl (gd_cons (lf_X12_mean_2 _ (List.mem_of_getElem? (i := 10) rfl)) rfl (gd_cons (lf_X12_mean_2 _ (List.mem_of_getElem? (i := 11) rfl)) rfl (gd_cons (lf_X12_mean_2 _ (List.mem_of_getElem? (i := 12) rfl)) rfl (gd_cons (lf_X12_mean_2 _ (List.mem_of_getElem? (i := 13) rfl)) rfl (gd_cons (lf_X12_mean_2 _ (List.mem_of_getElem? (i := 14) rfl)) rfl (gd_cons (lf_X12_mean_2 _ (List.mem_of_getElem? (i := 15) rfl)) rfl (gd_cons (lf_X12_mean_2 _ (List.mem_of_getElem? (i := 16) rfl)) rfl (gd_cons (lf_X12_mean_2 _ (List.mem_of_getElem? (i := 17) rfl)) rfl (gd_nil _))))))))))))))))))))))))) (goodIn_app (gd_cons (lf_X12_mean_2 _ (List.mem_of_getElem? (i := 18) rfl)) rfl (gd_cons (lf_X12_mean_2 _ (List.mem_of_getElem? (i := 19) rfl)) rfl (gd_cons (lf_X12_mean_2 _ (List.mem_of_getElem? (i := 20) rfl)) rfl (gd_cons (lf_X12_mean_2 _ (List.mem_of_getElem? (i := 21) rfl)) rfl (gd_cons (lf_X12_mean_2 _ (List.mem_of_getElem? (i := 22) rfl)) rfl (gd_cons (lf_X12_mean_2 _ (List.mem_of_getElem? (i := 23) rfl)) rfl (gd_cons (lf_X12_mean_3 _ (List.mem_of_getElem? (i := 0) rfl)) rfl (gd_cons (lf_X12_mean_3 _ (List.mem_of_getElem? (i := 1) rfl)) rfl (gd_cons (lf_X12_mean_3 _ (List.mem_of_getElem? (i := 2) rfl)) rfl (gd_cons (lf_X12_mean_3 _ (List.mem_of_getElem? (i := 3) rfl)) rfl (gd_cons (lf_X12_mean_3 _ (List.mem_of_getElem? (i := 4) rfl)) rfl (gd_cons (lf_X12_mean_3 _ (List.mem_of_getElem? (i := 5) rfl)) rfl (gd_cons (lf_X12_mean_3 _ (List.mem_of_getElem? (i := 6) rfl)) rfl (gd_cons (lf_X12_mean_3 _ (List.mem_of_getElem? (i := 7) rfl)) rfl (gd_cons (lf_X12_mean_3 _ (List.mem_of_getElem? (i := 8) rfl)) rfl (gd_cons (lf_X12_mean_3 _ (List.mem_of_getElem? (i := 9) rfl)) rfl (gd_cons (lf_X12_mean_3 _ (List.mem_of_getElem? (i := 10) rfl)) rfl (gd_cons (lf_X12_mean_3 _ (List.mem_of_getElem? (i := 11) rfl)) rfl (gd_cons (lf_X12_mean_3 _ (List.mem_of_getElem? (i := 12) rfl)) rfl (gd_cons (lf_X12_mean_3 _ (List.mem_of_getElem? (i := 13) rfl)) rfl (gd_cons (lf_X12_mean_3 _ (List.mem_of_getElem? (i := 14) rfl)) rfl (gd_cons (lf_X12_mean_3 _ (List.mem_of_getElem? (i := 15) rfl)) rfl (gd_cons (lf_X12_mean_3 _ (List.mem_of_getElem? (i := 16) rfl)) rfl (gd_cons (lf_X12_mean_3 _ (List.mem_of_getElem? (i := 17) rfl)) rfl (gd_nil _))))))))))))))))))))))))) (gd_cons (lf_X12_mean_3 _ (List.mem_of_getElem? (i := 18) rfl)) rfl (gd_cons (lf_X12_mean_3 _ (List.mem_of_getElem? (i := 19) rfl)) rfl (gd_cons (lf_X12_mean_3 _ (List.mem_of_getElem? (i := 20) rfl)) rfl (gd_cons (lf_X12_mean_3 _ (List.mem_of_getElem? (i := 21) rfl)) rfl (gd_cons (lf_X12_mean_3 _ (List.mem_of_getElem? (i := 22) rfl)) rfl (gd_cons (lf_X12_mean_3 _ (List.mem_of_getElem? (i := 23) rfl)) rfl (gd_cons (lf_X12_mean_4 _ (List.mem_of_getElem? (i := 0) rfl)) rfl (gd_cons (lf_X12_mean_4 _ (List.mem_of_getElem? (i := 1) rfl)) rfl (gd_cons (lf_X12_mean_4 _ (List.mem_of_getElem? (i := 2) rfl)) rfl (gd_cons (lf_X12_mean_4 _ (List.mem_of_getElem? (i := 3) rfl)) rfl (gd_cons (lf_X12_mean_4 _ (List.mem_of_getElem? (i := 4) rfl)) rfl (gd_cons (lf_X12_mean_4 _ (List.mem_of_getElem? (i := 5) rfl)) rfl (gd_cons (lf_X12_mean_4 _ (List.mem_of_getElem? (i := 6) rfl)) rfl (gd_cons (lf_X12_mean_4 _ (List.mem_of_getElem? (i := 7) rfl)) rfl (gd_cons (lf_X12_mean_4 _ (List.mem_of_getElem? (i := 8) rfl)) rfl (gd_cons (lf_X12_mean_4 _ (List.mem_of_getElem? (i := 9) rfl)) rfl (gd_cons (lf_X12_mean_4 _ (List.mem_of_getElem? (i := 10) rfl)) rfl (gd_nil _)))))))))))))))))))) (goodIn_sub lf_X12_mean_5 ga_wsX120)))
set_option maxRecDepth 20000 in
theorem gX12_mean_X12_layMean : GoodIn wsX12_mean (wsV RX12 223 RX12 yX12_layMean wsX12_layMean) := goodIn_app (gd_cons (lf_X12_mean_2 _ (List.mem_of_getElem? (i := 3) rfl)) rfl (gd_cons (lf_X12_mean_2 _ (List.mem_of_getElem? (i := 4) rfl)) rfl (gd_cons (lf_X12_mean_2 _ (List.mem_of_getElem? (i := 5) rfl)) rfl (gd_cons (lf_X12_mean_1 _ (List.mem_of_getElem? (i := 5) rfl)) rfl (gd_nil _))))) ggX12_mean_X12_layMean
set_option maxRecDepth 20000 in
theorem ggX12_mean_X12_parts : GoodIn wsX12_mean wsX12_parts := (gd_cons (lf_X12_mean_3 _ (List.mem_of_getElem? (i := 11) rfl)) rfl (gd_cons (lf_X12_mean_3 _ (List.mem_of_getElem? (i := 12) rfl)) rfl (gd_nil _)))
set_option maxRecDepth 20000 in
theorem gX12_mean_X12_parts : GoodIn wsX12_mean (va_wsS RX12 214 yX12_parts wsX12_parts) := goodIn_app (gd_cons (lf_X12_mean_3 _ (List.mem_of_getElem? (i := 9) rfl)) rfl (gd_cons (lf_X12_mean_3 _ (List.mem_of_getElem? (i := 10) rfl)) rfl (gd_cons (lf_X12_mean_1 _ (List.mem_of_getElem? (i := 5) rfl)) rfl (gd_nil _)))) ggX12_mean_X12_parts
set_option maxRecDepth 20000 in
theorem ggX12_mean_X12_told : GoodIn wsX12_mean wsX12_told := (gd_cons (lf_X12_mean_4 _ (List.mem_of_getElem? (i := 13) rfl)) rfl (gd_cons (lf_X12_mean_4 _ (List.mem_of_getElem? (i := 14) rfl)) rfl (gd_cons (lf_X12_mean_4 _ (List.mem_of_getElem? (i := 15) rfl)) rfl (gd_cons (lf_X12_mean_1 _ (List.mem_of_getElem? (i := 5) rfl)) rfl (gd_cons (lf_X12_mean_4 _ (List.mem_of_getElem? (i := 16) rfl)) rfl (gd_nil _))))))
set_option maxRecDepth 20000 in
theorem gX12_mean_X12_told : GoodIn wsX12_mean (va_wsS RX12 202 yX12_told wsX12_told) := goodIn_app (gd_cons (lf_X12_mean_4 _ (List.mem_of_getElem? (i := 11) rfl)) rfl (gd_cons (lf_X12_mean_4 _ (List.mem_of_getElem? (i := 12) rfl)) rfl (gd_cons (lf_X12_mean_1 _ (List.mem_of_getElem? (i := 5) rfl)) rfl (gd_nil _)))) ggX12_mean_X12_told
theorem dX12_mean_0 : decode cX12_mean 0 = .ok (.iload_n 1, 1) := dq_27 (dst 0 rd_prog_14_method_48_code_0 rfl)
theorem dX12_mean_1 : decode cX12_mean 1 = .ok (.invokestatic 148, 3) := dq_184 (dst 1 rd_prog_14_method_48_code_0 rfl) rfl
theorem dX12_mean_4 : decode cX12_mean 4 = .ok (.ifCond .eq 11, 3) := dq_153 (dst 4 rd_prog_14_method_48_code_0 rfl) (by decide +kernel)
theorem dX12_mean_7 : decode cX12_mean 7 = .ok (.aload_n 0, 1) := dq_42 (dst 7 rd_prog_14_method_48_code_0 rfl)
theorem dX12_mean_8 : decode cX12_mean 8 = .ok (.iload_n 2, 1) := dq_28 (dst 8 rd_prog_14_method_48_code_0 rfl)
theorem dX12_mean_9 : decode cX12_mean 9 = .ok (.invokevirtual 152, 3) := dq_182 (dst 9 rd_prog_14_method_48_code_0 rfl) rfl
theorem dX12_mean_12 : decode cX12_mean 12 = .ok (.ifCond .ne 7, 3) := dq_154 (dst 12 rd_prog_14_method_48_code_0 rfl) (by decide +kernel)
theorem dX12_mean_15 : decode cX12_mean 15 = .ok (.ldc2_w 221, 3) := dq_20 (dst 15 rd_prog_14_method_48_code_0 rfl) rfl
theorem dX12_mean_18 : decode cX12_mean 18 = .ok (.lreturn, 1) := dq_173 (dst 18 rd_prog_14_method_48_code_0 rfl)
theorem dX12_mean_19 : decode cX12_mean 19 = .ok (.aload_n 0, 1) := dq_42 (dst 19 rd_prog_14_method_48_code_0 rfl)
theorem dX12_mean_20 : decode cX12_mean 20 = .ok (.iload_n 3, 1) := dq_29 (dst 20 rd_prog_14_method_48_code_0 rfl)
theorem dX12_mean_21 : decode cX12_mean 21 = .ok (.invokevirtual 171, 3) := dq_182 (dst 21 rd_prog_14_method_48_code_0 rfl) rfl
theorem dX12_mean_24 : decode cX12_mean 24 = .ok (.ifCond .eq 12, 3) := dq_153 (dst 24 rd_prog_14_method_48_code_0 rfl) (by decide +kernel)
theorem dX12_mean_27 : decode cX12_mean 27 = .ok (.aload_n 0, 1) := dq_42 (dst 27 rd_prog_14_method_48_code_0 rfl)
theorem dX12_mean_28 : decode cX12_mean 28 = .ok (.iload 4, 2) := dq_21 (dst 28 rd_prog_14_method_48_code_0 rfl) rfl
theorem dX12_mean_30 : decode cX12_mean 30 = .ok (.invokevirtual 178, 3) := dq_182 (dst 30 rd_prog_14_method_48_code_0 rfl) rfl
theorem dX12_mean_33 : decode cX12_mean 33 = .ok (.ifCond .ne 7, 3) := dq_154 (dst 1 rd_prog_14_method_48_code_1 rfl) (by decide +kernel)
theorem dX12_mean_36 : decode cX12_mean 36 = .ok (.ldc2_w 206, 3) := dq_20 (dst 4 rd_prog_14_method_48_code_1 rfl) rfl
theorem dX12_mean_39 : decode cX12_mean 39 = .ok (.lreturn, 1) := dq_173 (dst 7 rd_prog_14_method_48_code_1 rfl)
theorem dX12_mean_40 : decode cX12_mean 40 = .ok (.aload_n 0, 1) := dq_42 (dst 8 rd_prog_14_method_48_code_1 rfl)
theorem dX12_mean_41 : decode cX12_mean 41 = .ok (.iload_n 1, 1) := dq_27 (dst 9 rd_prog_14_method_48_code_1 rfl)
theorem dX12_mean_42 : decode cX12_mean 42 = .ok (.iload_n 2, 1) := dq_28 (dst 10 rd_prog_14_method_48_code_1 rfl)
theorem dX12_mean_43 : decode cX12_mean 43 = .ok (.iload_n 3, 1) := dq_29 (dst 11 rd_prog_14_method_48_code_1 rfl)
theorem dX12_mean_44 : decode cX12_mean 44 = .ok (.iload 4, 2) := dq_21 (dst 12 rd_prog_14_method_48_code_1 rfl) rfl
theorem dX12_mean_46 : decode cX12_mean 46 = .ok (.invokevirtual 223, 3) := dq_182 (dst 14 rd_prog_14_method_48_code_1 rfl) rfl
theorem dX12_mean_49 : decode cX12_mean 49 = .ok (.aload_n 0, 1) := dq_42 (dst 17 rd_prog_14_method_48_code_1 rfl)
theorem dX12_mean_50 : decode cX12_mean 50 = .ok (.getfield 13, 3) := dq_180 (dst 18 rd_prog_14_method_48_code_1 rfl) rfl
theorem dX12_mean_53 : decode cX12_mean 53 = .ok (.iconst 0, 1) := dq_3 (dst 21 rd_prog_14_method_48_code_1 rfl)
theorem dX12_mean_54 : decode cX12_mean 54 = .ok (.iaload, 1) := dq_46 (dst 22 rd_prog_14_method_48_code_1 rfl)
theorem dX12_mean_55 : decode cX12_mean 55 = .ok (.iload_n 2, 1) := dq_28 (dst 23 rd_prog_14_method_48_code_1 rfl)
theorem dX12_mean_56 : decode cX12_mean 56 = .ok (.isub, 1) := dq_100 (dst 24 rd_prog_14_method_48_code_1 rfl)
theorem dX12_mean_57 : decode cX12_mean 57 = .ok (.invokestatic 214, 3) := dq_184 (dst 25 rd_prog_14_method_48_code_1 rfl) rfl
theorem dX12_mean_60 : decode cX12_mean 60 = .ok (.iload 5, 2) := dq_21 (dst 28 rd_prog_14_method_48_code_1 rfl) rfl
theorem dX12_mean_62 : decode cX12_mean 62 = .ok (.invokestatic 202, 3) := dq_184 (dst 30 rd_prog_14_method_48_code_1 rfl) rfl
theorem dX12_mean_65 : decode cX12_mean 65 = .ok (.lreturn, 1) := dq_173 (dst 1 rd_prog_14_method_48_code_2 rfl)
theorem lf_X12_layLikely_1 : ∀ w ∈ wsX12_layLikely_r1, w ∈ wsX12_layLikely := fun _ h => (List.mem_cons_of_mem _ (List.mem_append_left _ (List.mem_append_left _ h)))
theorem lf_X12_layLikely_2 : ∀ w ∈ wsX12_layLikely_r2, w ∈ wsX12_layLikely := fun _ h => (List.mem_cons_of_mem _ (List.mem_append_left _ (List.mem_append_right _ h)))
theorem lf_X12_layLikely_3 : ∀ w ∈ wsX120, w ∈ wsX12_layLikely := fun _ h => (List.mem_cons_of_mem _ (List.mem_append_right _ h))
set_option maxRecDepth 20000 in
theorem ggX12_layLikely_X12_ruleAct : GoodIn wsX12_layLikely wsX12_ruleAct := (gd_cons (lf_X12_layLikely_1 _ (List.mem_of_getElem? (i := 6) rfl)) rfl (goodIn_app (gd_cons (lf_X12_layLikely_1 _ (List.mem_of_getElem? (i := 7) rfl)) rfl (gd_cons (lf_X12_layLikely_1 _ (List.mem_of_getElem? (i := 8) rfl)) rfl (gd_cons (lf_X12_layLikely_1 _ (List.mem_of_getElem? (i := 9) rfl)) rfl (gd_cons (lf_X12_layLikely_1 _ (List.mem_of_getElem? (i := 10) rfl)) rfl (gd_cons (lf_X12_layLikely_1 _ (List.mem_of_getElem? (i := 5) rfl)) rfl (gd_cons (lf_X12_layLikely_1 _ (List.mem_of_getElem? (i := 11) rfl)) rfl (gd_nil _))))))) (goodIn_sub lf_X12_layLikely_3 ga_wsX120)))
set_option maxRecDepth 20000 in
theorem gX12_layLikely_X12_ruleAct : GoodIn wsX12_layLikely (wsV RX12 208 RX12 yX12_ruleAct wsX12_ruleAct) := goodIn_app (gd_cons (lf_X12_layLikely_1 _ (List.mem_of_getElem? (i := 2) rfl)) rfl (gd_cons (lf_X12_layLikely_1 _ (List.mem_of_getElem? (i := 3) rfl)) rfl (gd_cons (lf_X12_layLikely_1 _ (List.mem_of_getElem? (i := 4) rfl)) rfl (gd_cons (lf_X12_layLikely_1 _ (List.mem_of_getElem? (i := 5) rfl)) rfl (gd_nil _))))) ggX12_layLikely_X12_ruleAct
set_option maxRecDepth 20000 in
theorem ggX12_layLikely_X12_after : GoodIn wsX12_layLikely wsX12_after := (gd_cons (lf_X12_layLikely_1 _ (List.mem_of_getElem? (i := 15) rfl)) rfl (goodIn_app (gd_cons (lf_X12_layLikely_1 _ (List.mem_of_getElem? (i := 8) rfl)) rfl (gd_cons (lf_X12_layLikely_1 _ (List.mem_of_getElem? (i := 9) rfl)) rfl (gd_cons (lf_X12_layLikely_1 _ (List.mem_of_getElem? (i := 10) rfl)) rfl (gd_cons (lf_X12_layLikely_1 _ (List.mem_of_getElem? (i := 5) rfl)) rfl (gd_cons (lf_X12_layLikely_1 _ (List.mem_of_getElem? (i := 11) rfl)) rfl (gd_cons (lf_X12_layLikely_1 _ (List.mem_of_getElem? (i := 16) rfl)) rfl (gd_cons (lf_X12_layLikely_1 _ (List.mem_of_getElem? (i := 17) rfl)) rfl (gd_cons (lf_X12_layLikely_1 _ (List.mem_of_getElem? (i := 18) rfl)) rfl (gd_nil _))))))))) (goodIn_sub lf_X12_layLikely_3 ga_wsX120)))
set_option maxRecDepth 20000 in
theorem gX12_layLikely_X12_after : GoodIn wsX12_layLikely (wsV RX12 174 RX12 yX12_after wsX12_after) := goodIn_app (gd_cons (lf_X12_layLikely_1 _ (List.mem_of_getElem? (i := 12) rfl)) rfl (gd_cons (lf_X12_layLikely_1 _ (List.mem_of_getElem? (i := 13) rfl)) rfl (gd_cons (lf_X12_layLikely_1 _ (List.mem_of_getElem? (i := 14) rfl)) rfl (gd_cons (lf_X12_layLikely_1 _ (List.mem_of_getElem? (i := 5) rfl)) rfl (gd_nil _))))) ggX12_layLikely_X12_after
set_option maxRecDepth 20000 in
theorem ggX12_layLikely_X12_isHands : GoodIn wsX12_layLikely wsX12_isHands := (gd_cons (lf_X12_layLikely_1 _ (List.mem_of_getElem? (i := 22) rfl)) rfl (goodIn_app (gd_cons (lf_X12_layLikely_1 _ (List.mem_of_getElem? (i := 23) rfl)) rfl (gd_cons (lf_X12_layLikely_1 _ (List.mem_of_getElem? (i := 8) rfl)) rfl (gd_cons (lf_X12_layLikely_2 _ (List.mem_of_getElem? (i := 0) rfl)) rfl (gd_cons (lf_X12_layLikely_2 _ (List.mem_of_getElem? (i := 1) rfl)) rfl (gd_cons (lf_X12_layLikely_1 _ (List.mem_of_getElem? (i := 5) rfl)) rfl (gd_cons (lf_X12_layLikely_2 _ (List.mem_of_getElem? (i := 2) rfl)) rfl (gd_cons (lf_X12_layLikely_1 _ (List.mem_of_getElem? (i := 9) rfl)) rfl (gd_cons (lf_X12_layLikely_1 _ (List.mem_of_getElem? (i := 10) rfl)) rfl (gd_cons (lf_X12_layLikely_1 _ (List.mem_of_getElem? (i := 11) rfl)) rfl (gd_nil _)))))))))) (goodIn_sub lf_X12_layLikely_3 ga_wsX120)))
set_option maxRecDepth 20000 in
theorem gX12_layLikely_X12_isHands : GoodIn wsX12_layLikely (wsV RX12 171 RX12 yX12_isHands wsX12_isHands) := goodIn_app (gd_cons (lf_X12_layLikely_1 _ (List.mem_of_getElem? (i := 19) rfl)) rfl (gd_cons (lf_X12_layLikely_1 _ (List.mem_of_getElem? (i := 20) rfl)) rfl (gd_cons (lf_X12_layLikely_1 _ (List.mem_of_getElem? (i := 21) rfl)) rfl (gd_cons (lf_X12_layLikely_1 _ (List.mem_of_getElem? (i := 5) rfl)) rfl (gd_nil _))))) ggX12_layLikely_X12_isHands
set_option maxRecDepth 20000 in
theorem ggX12_layLikely_X12_sundayOf : GoodIn wsX12_layLikely wsX12_sundayOf := (gd_cons (lf_X12_layLikely_2 _ (List.mem_of_getElem? (i := 6) rfl)) rfl (goodIn_app (gd_cons (lf_X12_layLikely_2 _ (List.mem_of_getElem? (i := 7) rfl)) rfl (gd_cons (lf_X12_layLikely_2 _ (List.mem_of_getElem? (i := 8) rfl)) rfl (gd_cons (lf_X12_layLikely_2 _ (List.mem_of_getElem? (i := 9) rfl)) rfl (gd_cons (lf_X12_layLikely_1 _ (List.mem_of_getElem? (i := 5) rfl)) rfl (gd_cons (lf_X12_layLikely_2 _ (List.mem_of_getElem? (i := 10) rfl)) rfl (gd_cons (lf_X12_layLikely_2 _ (List.mem_of_getElem? (i := 0) rfl)) rfl (gd_cons (lf_X12_layLikely_2 _ (List.mem_of_getElem? (i := 1) rfl)) rfl (gd_cons (lf_X12_layLikely_2 _ (List.mem_of_getElem? (i := 2) rfl)) rfl (gd_cons (lf_X12_layLikely_2 _ (List.mem_of_getElem? (i := 11) rfl)) rfl (gd_cons (lf_X12_layLikely_2 _ (List.mem_of_getElem? (i := 12) rfl)) rfl (gd_cons (lf_X12_layLikely_2 _ (List.mem_of_getElem? (i := 13) rfl)) rfl (gd_cons (lf_X12_layLikely_2 _ (List.mem_of_getElem? (i := 14) rfl)) rfl (gd_cons (lf_X12_layLikely_2 _ (List.mem_of_getElem? (i := 15) rfl)) rfl (gd_cons (lf_X12_layLikely_2 _ (List.mem_of_getElem? (i := 16) rfl)) rfl (gd_cons (lf_X12_layLikely_2 _ (List.mem_of_getElem? (i := 17) rfl)) rfl (gd_cons (lf_X12_layLikely_1 _ (List.mem_of_getElem? (i := 8) rfl)) rfl (gd_cons (lf_X12_layLikely_2 _ (List.mem_of_getElem? (i := 18) rfl)) rfl (gd_cons (lf_X12_layLikely_2 _ (List.mem_of_getElem? (i := 19) rfl)) rfl (gd_cons (lf_X12_layLikely_2 _ (List.mem_of_getElem? (i := 20) rfl)) rfl (gd_cons (lf_X12_layLikely_1 _ (List.mem_of_getElem? (i := 9) rfl)) rfl (gd_cons (lf_X12_layLikely_1 _ (List.mem_of_getElem? (i := 10) rfl)) rfl (gd_cons (lf_X12_layLikely_1 _ (List.mem_of_getElem? (i := 11) rfl)) rfl (gd_nil _))))))))))))))))))))))) (goodIn_sub lf_X12_layLikely_3 ga_wsX120)))
set_option maxRecDepth 20000 in
theorem gX12_layLikely_X12_sundayOf : GoodIn wsX12_layLikely (wsV RX12 197 RX12 yX12_sundayOf wsX12_sundayOf) := goodIn_app (gd_cons (lf_X12_layLikely_2 _ (List.mem_of_getElem? (i := 3) rfl)) rfl (gd_cons (lf_X12_layLikely_2 _ (List.mem_of_getElem? (i := 4) rfl)) rfl (gd_cons (lf_X12_layLikely_2 _ (List.mem_of_getElem? (i := 5) rfl)) rfl (gd_cons (lf_X12_layLikely_1 _ (List.mem_of_getElem? (i := 5) rfl)) rfl (gd_nil _))))) ggX12_layLikely_X12_sundayOf
theorem dX12_layLikely_0 : decode cX12_layLikely 0 = .ok (.iconst 0, 1) := dq_3 (dst 0 rd_prog_14_method_49_code_0 rfl)
theorem dX12_layLikely_1 : decode cX12_layLikely 1 = .ok (.istore_n 3, 1) := dq_62 (dst 1 rd_prog_14_method_49_code_0 rfl)
theorem dX12_layLikely_2 : decode cX12_layLikely 2 = .ok (.iload_n 3, 1) := dq_29 (dst 2 rd_prog_14_method_49_code_0 rfl)
theorem dX12_layLikely_3 : decode cX12_layLikely 3 = .ok (.bipush 50, 2) := dq_16 (dst 3 rd_prog_14_method_49_code_0 rfl) (by decide +kernel)
theorem dX12_layLikely_5 : decode cX12_layLikely 5 = .ok (.if_icmp .ge 24, 3) := dq_162 (dst 5 rd_prog_14_method_49_code_0 rfl) (by decide +kernel)
theorem dX12_layLikely_8 : decode cX12_layLikely 8 = .ok (.aload_n 0, 1) := dq_42 (dst 8 rd_prog_14_method_49_code_0 rfl)
theorem dX12_layLikely_9 : decode cX12_layLikely 9 = .ok (.getfield 32, 3) := dq_180 (dst 9 rd_prog_14_method_49_code_0 rfl) rfl
theorem dX12_layLikely_12 : decode cX12_layLikely 12 = .ok (.iload_n 3, 1) := dq_29 (dst 12 rd_prog_14_method_49_code_0 rfl)
theorem dX12_layLikely_13 : decode cX12_layLikely 13 = .ok (.iload_n 3, 1) := dq_29 (dst 13 rd_prog_14_method_49_code_0 rfl)
theorem dX12_layLikely_14 : decode cX12_layLikely 14 = .ok (.ifCond .ne 7, 3) := dq_154 (dst 14 rd_prog_14_method_49_code_0 rfl) (by decide +kernel)
theorem dX12_layLikely_17 : decode cX12_layLikely 17 = .ok (.lconst 1, 1) := dq_10 (dst 17 rd_prog_14_method_49_code_0 rfl)
theorem dX12_layLikely_18 : decode cX12_layLikely 18 = .ok (.goto 4, 3) := dq_167 (dst 18 rd_prog_14_method_49_code_0 rfl) (by decide +kernel)
theorem dX12_layLikely_21 : decode cX12_layLikely 21 = .ok (.lconst 0, 1) := dq_9 (dst 21 rd_prog_14_method_49_code_0 rfl)
theorem dX12_layLikely_22 : decode cX12_layLikely 22 = .ok (.lastore, 1) := dq_80 (dst 22 rd_prog_14_method_49_code_0 rfl)
theorem dX12_layLikely_23 : decode cX12_layLikely 23 = .ok (.iinc 3 1, 3) := dq_132 (dst 23 rd_prog_14_method_49_code_0 rfl) rfl (by decide +kernel)
theorem dX12_layLikely_26 : decode cX12_layLikely 26 = .ok (.goto (-24), 3) := dq_167 (dst 26 rd_prog_14_method_49_code_0 rfl) (by decide +kernel)
theorem dX12_layLikely_29 : decode cX12_layLikely 29 = .ok (.iconst 0, 1) := dq_3 (dst 29 rd_prog_14_method_49_code_0 rfl)
theorem dX12_layLikely_30 : decode cX12_layLikely 30 = .ok (.istore_n 3, 1) := dq_62 (dst 30 rd_prog_14_method_49_code_0 rfl)
theorem dX12_layLikely_31 : decode cX12_layLikely 31 = .ok (.iload_n 3, 1) := dq_29 (dst 31 rd_prog_14_method_49_code_0 rfl)
theorem dX12_layLikely_32 : decode cX12_layLikely 32 = .ok (.iload_n 2, 1) := dq_28 (dst 0 rd_prog_14_method_49_code_1 rfl)
theorem dX12_layLikely_33 : decode cX12_layLikely 33 = .ok (.if_icmp .ge 164, 3) := dq_162 (dst 1 rd_prog_14_method_49_code_1 rfl) (by decide +kernel)
theorem dX12_layLikely_36 : decode cX12_layLikely 36 = .ok (.iconst 0, 1) := dq_3 (dst 4 rd_prog_14_method_49_code_1 rfl)
theorem dX12_layLikely_37 : decode cX12_layLikely 37 = .ok (.istore 4, 2) := dq_54 (dst 5 rd_prog_14_method_49_code_1 rfl) rfl
theorem dX12_layLikely_39 : decode cX12_layLikely 39 = .ok (.iload 4, 2) := dq_21 (dst 7 rd_prog_14_method_49_code_1 rfl) rfl
theorem dX12_layLikely_41 : decode cX12_layLikely 41 = .ok (.bipush 50, 2) := dq_16 (dst 9 rd_prog_14_method_49_code_1 rfl) (by decide +kernel)
theorem dX12_layLikely_43 : decode cX12_layLikely 43 = .ok (.if_icmp .ge 17, 3) := dq_162 (dst 11 rd_prog_14_method_49_code_1 rfl) (by decide +kernel)
theorem dX12_layLikely_46 : decode cX12_layLikely 46 = .ok (.aload_n 0, 1) := dq_42 (dst 14 rd_prog_14_method_49_code_1 rfl)
theorem dX12_layLikely_47 : decode cX12_layLikely 47 = .ok (.getfield 35, 3) := dq_180 (dst 15 rd_prog_14_method_49_code_1 rfl) rfl
theorem dX12_layLikely_50 : decode cX12_layLikely 50 = .ok (.iload 4, 2) := dq_21 (dst 18 rd_prog_14_method_49_code_1 rfl) rfl
theorem dX12_layLikely_52 : decode cX12_layLikely 52 = .ok (.lconst 0, 1) := dq_9 (dst 20 rd_prog_14_method_49_code_1 rfl)
theorem dX12_layLikely_53 : decode cX12_layLikely 53 = .ok (.lastore, 1) := dq_80 (dst 21 rd_prog_14_method_49_code_1 rfl)
theorem dX12_layLikely_54 : decode cX12_layLikely 54 = .ok (.iinc 4 1, 3) := dq_132 (dst 22 rd_prog_14_method_49_code_1 rfl) rfl (by decide +kernel)
theorem dX12_layLikely_57 : decode cX12_layLikely 57 = .ok (.goto (-18), 3) := dq_167 (dst 25 rd_prog_14_method_49_code_1 rfl) (by decide +kernel)
theorem dX12_layLikely_60 : decode cX12_layLikely 60 = .ok (.iconst 0, 1) := dq_3 (dst 28 rd_prog_14_method_49_code_1 rfl)
theorem dX12_layLikely_61 : decode cX12_layLikely 61 = .ok (.istore 4, 2) := dq_54 (dst 29 rd_prog_14_method_49_code_1 rfl) rfl
theorem dX12_layLikely_63 : decode cX12_layLikely 63 = .ok (.iload 4, 2) := dq_21 (dst 31 rd_prog_14_method_49_code_1 rfl) rfl
theorem dX12_layLikely_65 : decode cX12_layLikely 65 = .ok (.bipush 50, 2) := dq_16 (dst 1 rd_prog_14_method_49_code_2 rfl) (by decide +kernel)
theorem dX12_layLikely_67 : decode cX12_layLikely 67 = .ok (.if_icmp .ge 94, 3) := dq_162 (dst 3 rd_prog_14_method_49_code_2 rfl) (by decide +kernel)
theorem dX12_layLikely_70 : decode cX12_layLikely 70 = .ok (.aload_n 0, 1) := dq_42 (dst 6 rd_prog_14_method_49_code_2 rfl)
theorem dX12_layLikely_71 : decode cX12_layLikely 71 = .ok (.getfield 32, 3) := dq_180 (dst 7 rd_prog_14_method_49_code_2 rfl) rfl
theorem dX12_layLikely_74 : decode cX12_layLikely 74 = .ok (.iload 4, 2) := dq_21 (dst 10 rd_prog_14_method_49_code_2 rfl) rfl
theorem dX12_layLikely_76 : decode cX12_layLikely 76 = .ok (.laload, 1) := dq_47 (dst 12 rd_prog_14_method_49_code_2 rfl)
theorem dX12_layLikely_77 : decode cX12_layLikely 77 = .ok (.lconst 0, 1) := dq_9 (dst 13 rd_prog_14_method_49_code_2 rfl)
theorem dX12_layLikely_78 : decode cX12_layLikely 78 = .ok (.lcmp, 1) := dq_148 (dst 14 rd_prog_14_method_49_code_2 rfl)
theorem dX12_layLikely_79 : decode cX12_layLikely 79 = .ok (.ifCond .le 76, 3) := dq_158 (dst 15 rd_prog_14_method_49_code_2 rfl) (by decide +kernel)
theorem dX12_layLikely_82 : decode cX12_layLikely 82 = .ok (.aload_n 0, 1) := dq_42 (dst 18 rd_prog_14_method_49_code_2 rfl)
theorem dX12_layLikely_83 : decode cX12_layLikely 83 = .ok (.iload_n 3, 1) := dq_29 (dst 19 rd_prog_14_method_49_code_2 rfl)
theorem dX12_layLikely_84 : decode cX12_layLikely 84 = .ok (.iload 4, 2) := dq_21 (dst 20 rd_prog_14_method_49_code_2 rfl) rfl
theorem dX12_layLikely_86 : decode cX12_layLikely 86 = .ok (.aload_n 0, 1) := dq_42 (dst 22 rd_prog_14_method_49_code_2 rfl)
theorem dX12_layLikely_87 : decode cX12_layLikely 87 = .ok (.iload_n 1, 1) := dq_27 (dst 23 rd_prog_14_method_49_code_2 rfl)
theorem dX12_layLikely_88 : decode cX12_layLikely 88 = .ok (.iload_n 3, 1) := dq_29 (dst 24 rd_prog_14_method_49_code_2 rfl)
theorem dX12_layLikely_89 : decode cX12_layLikely 89 = .ok (.iload 4, 2) := dq_21 (dst 25 rd_prog_14_method_49_code_2 rfl) rfl
theorem dX12_layLikely_91 : decode cX12_layLikely 91 = .ok (.invokevirtual 208, 3) := dq_182 (dst 27 rd_prog_14_method_49_code_2 rfl) rfl
theorem dX12_layLikely_94 : decode cX12_layLikely 94 = .ok (.invokevirtual 174, 3) := dq_182 (dst 30 rd_prog_14_method_49_code_2 rfl) rfl
theorem dX12_layLikely_97 : decode cX12_layLikely 97 = .ok (.istore 5, 2) := dq_54 (dst 1 rd_prog_14_method_49_code_3 rfl) rfl
theorem dX12_layLikely_99 : decode cX12_layLikely 99 = .ok (.iconst 0, 1) := dq_3 (dst 3 rd_prog_14_method_49_code_3 rfl)
theorem dX12_layLikely_100 : decode cX12_layLikely 100 = .ok (.istore 6, 2) := dq_54 (dst 4 rd_prog_14_method_49_code_3 rfl) rfl
theorem dX12_layLikely_102 : decode cX12_layLikely 102 = .ok (.iload 6, 2) := dq_21 (dst 6 rd_prog_14_method_49_code_3 rfl) rfl
theorem dX12_layLikely_104 : decode cX12_layLikely 104 = .ok (.bipush 50, 2) := dq_16 (dst 8 rd_prog_14_method_49_code_3 rfl) (by decide +kernel)
theorem dX12_layLikely_106 : decode cX12_layLikely 106 = .ok (.if_icmp .ge 49, 3) := dq_162 (dst 10 rd_prog_14_method_49_code_3 rfl) (by decide +kernel)
theorem dX12_layLikely_109 : decode cX12_layLikely 109 = .ok (.aload_n 0, 1) := dq_42 (dst 13 rd_prog_14_method_49_code_3 rfl)
theorem dX12_layLikely_110 : decode cX12_layLikely 110 = .ok (.getfield 35, 3) := dq_180 (dst 14 rd_prog_14_method_49_code_3 rfl) rfl
theorem dX12_layLikely_113 : decode cX12_layLikely 113 = .ok (.iload 6, 2) := dq_21 (dst 17 rd_prog_14_method_49_code_3 rfl) rfl
theorem dX12_layLikely_115 : decode cX12_layLikely 115 = .ok (.dup2, 1) := dq_92 (dst 19 rd_prog_14_method_49_code_3 rfl)
theorem dX12_layLikely_116 : decode cX12_layLikely 116 = .ok (.laload, 1) := dq_47 (dst 20 rd_prog_14_method_49_code_3 rfl)
theorem dX12_layLikely_117 : decode cX12_layLikely 117 = .ok (.aload_n 0, 1) := dq_42 (dst 21 rd_prog_14_method_49_code_3 rfl)
theorem dX12_layLikely_118 : decode cX12_layLikely 118 = .ok (.iload 6, 2) := dq_21 (dst 22 rd_prog_14_method_49_code_3 rfl) rfl
theorem dX12_layLikely_120 : decode cX12_layLikely 120 = .ok (.invokevirtual 171, 3) := dq_182 (dst 24 rd_prog_14_method_49_code_3 rfl) rfl
theorem dX12_layLikely_123 : decode cX12_layLikely 123 = .ok (.ifCond .eq 23, 3) := dq_153 (dst 27 rd_prog_14_method_49_code_3 rfl) (by decide +kernel)
theorem dX12_layLikely_126 : decode cX12_layLikely 126 = .ok (.aload_n 0, 1) := dq_42 (dst 30 rd_prog_14_method_49_code_3 rfl)
theorem dX12_layLikely_127 : decode cX12_layLikely 127 = .ok (.getfield 32, 3) := dq_180 (dst 31 rd_prog_14_method_49_code_3 rfl) rfl
theorem dX12_layLikely_130 : decode cX12_layLikely 130 = .ok (.iload 4, 2) := dq_21 (dst 2 rd_prog_14_method_49_code_4 rfl) rfl
theorem dX12_layLikely_132 : decode cX12_layLikely 132 = .ok (.laload, 1) := dq_47 (dst 4 rd_prog_14_method_49_code_4 rfl)
theorem dX12_layLikely_133 : decode cX12_layLikely 133 = .ok (.aload_n 0, 1) := dq_42 (dst 5 rd_prog_14_method_49_code_4 rfl)
theorem dX12_layLikely_134 : decode cX12_layLikely 134 = .ok (.iload 5, 2) := dq_21 (dst 6 rd_prog_14_method_49_code_4 rfl) rfl
theorem dX12_layLikely_136 : decode cX12_layLikely 136 = .ok (.iload 6, 2) := dq_21 (dst 8 rd_prog_14_method_49_code_4 rfl) rfl
theorem dX12_layLikely_138 : decode cX12_layLikely 138 = .ok (.invokevirtual 197, 3) := dq_182 (dst 10 rd_prog_14_method_49_code_4 rfl) rfl
theorem dX12_layLikely_141 : decode cX12_layLikely 141 = .ok (.i2l, 1) := dq_133 (dst 13 rd_prog_14_method_49_code_4 rfl)
theorem dX12_layLikely_142 : decode cX12_layLikely 142 = .ok (.lmul, 1) := dq_105 (dst 14 rd_prog_14_method_49_code_4 rfl)
theorem dX12_layLikely_143 : decode cX12_layLikely 143 = .ok (.goto 4, 3) := dq_167 (dst 15 rd_prog_14_method_49_code_4 rfl) (by decide +kernel)
theorem dX12_layLikely_146 : decode cX12_layLikely 146 = .ok (.lconst 0, 1) := dq_9 (dst 18 rd_prog_14_method_49_code_4 rfl)
theorem dX12_layLikely_147 : decode cX12_layLikely 147 = .ok (.ladd, 1) := dq_97 (dst 19 rd_prog_14_method_49_code_4 rfl)
theorem dX12_layLikely_148 : decode cX12_layLikely 148 = .ok (.lastore, 1) := dq_80 (dst 20 rd_prog_14_method_49_code_4 rfl)
theorem dX12_layLikely_149 : decode cX12_layLikely 149 = .ok (.iinc 6 1, 3) := dq_132 (dst 21 rd_prog_14_method_49_code_4 rfl) rfl (by decide +kernel)
theorem dX12_layLikely_152 : decode cX12_layLikely 152 = .ok (.goto (-50), 3) := dq_167 (dst 24 rd_prog_14_method_49_code_4 rfl) (by decide +kernel)
theorem dX12_layLikely_155 : decode cX12_layLikely 155 = .ok (.iinc 4 1, 3) := dq_132 (dst 27 rd_prog_14_method_49_code_4 rfl) rfl (by decide +kernel)
theorem dX12_layLikely_158 : decode cX12_layLikely 158 = .ok (.goto (-95), 3) := dq_167 (dst 30 rd_prog_14_method_49_code_4 rfl) (by decide +kernel)
theorem dX12_layLikely_161 : decode cX12_layLikely 161 = .ok (.iconst 0, 1) := dq_3 (dst 1 rd_prog_14_method_49_code_5 rfl)
theorem dX12_layLikely_162 : decode cX12_layLikely 162 = .ok (.istore 4, 2) := dq_54 (dst 2 rd_prog_14_method_49_code_5 rfl) rfl
theorem dX12_layLikely_164 : decode cX12_layLikely 164 = .ok (.iload 4, 2) := dq_21 (dst 4 rd_prog_14_method_49_code_5 rfl) rfl
theorem dX12_layLikely_166 : decode cX12_layLikely 166 = .ok (.bipush 50, 2) := dq_16 (dst 6 rd_prog_14_method_49_code_5 rfl) (by decide +kernel)
theorem dX12_layLikely_168 : decode cX12_layLikely 168 = .ok (.if_icmp .ge 23, 3) := dq_162 (dst 8 rd_prog_14_method_49_code_5 rfl) (by decide +kernel)
theorem dX12_layLikely_171 : decode cX12_layLikely 171 = .ok (.aload_n 0, 1) := dq_42 (dst 11 rd_prog_14_method_49_code_5 rfl)
theorem dX12_layLikely_172 : decode cX12_layLikely 172 = .ok (.getfield 32, 3) := dq_180 (dst 12 rd_prog_14_method_49_code_5 rfl) rfl
theorem dX12_layLikely_175 : decode cX12_layLikely 175 = .ok (.iload 4, 2) := dq_21 (dst 15 rd_prog_14_method_49_code_5 rfl) rfl
theorem dX12_layLikely_177 : decode cX12_layLikely 177 = .ok (.aload_n 0, 1) := dq_42 (dst 17 rd_prog_14_method_49_code_5 rfl)
theorem dX12_layLikely_178 : decode cX12_layLikely 178 = .ok (.getfield 35, 3) := dq_180 (dst 18 rd_prog_14_method_49_code_5 rfl) rfl
theorem dX12_layLikely_181 : decode cX12_layLikely 181 = .ok (.iload 4, 2) := dq_21 (dst 21 rd_prog_14_method_49_code_5 rfl) rfl
theorem dX12_layLikely_183 : decode cX12_layLikely 183 = .ok (.laload, 1) := dq_47 (dst 23 rd_prog_14_method_49_code_5 rfl)
theorem dX12_layLikely_184 : decode cX12_layLikely 184 = .ok (.lastore, 1) := dq_80 (dst 24 rd_prog_14_method_49_code_5 rfl)
theorem dX12_layLikely_185 : decode cX12_layLikely 185 = .ok (.iinc 4 1, 3) := dq_132 (dst 25 rd_prog_14_method_49_code_5 rfl) rfl (by decide +kernel)
theorem dX12_layLikely_188 : decode cX12_layLikely 188 = .ok (.goto (-24), 3) := dq_167 (dst 28 rd_prog_14_method_49_code_5 rfl) (by decide +kernel)
theorem dX12_layLikely_191 : decode cX12_layLikely 191 = .ok (.iinc 3 1, 3) := dq_132 (dst 31 rd_prog_14_method_49_code_5 rfl) rfl (by decide +kernel)
theorem dX12_layLikely_194 : decode cX12_layLikely 194 = .ok (.goto (-163), 3) := dq_167 (dst 2 rd_prog_14_method_49_code_6 rfl) (by decide +kernel)
theorem dX12_layLikely_197 : decode cX12_layLikely 197 = .ok (.return_, 1) := dq_177 (dst 5 rd_prog_14_method_49_code_6 rfl)
theorem lf_X12_overBy_1 : ∀ w ∈ ([Cond.methodLink RX12 208 yX12_ruleAct, Cond.instanceMethod yX12_ruleAct, Cond.selects RX12 yX12_ruleAct yX12_ruleAct, Cond.initialized RX12, Cond.code yX12_ruleAct cX12_ruleAct 7 (some .int), Cond.fieldLink RX12 19 "StillInAugustModel" "levels" "[I", Cond.fieldLink RX12 13 "StillInAugustModel" "house" "[I", Cond.methodLink RX12 160 yX12_all, Cond.static yX12_all, Cond.code yX12_all cX12_all 1 (some .int), Cond.methodLink RX12 174 yX12_after, Cond.instanceMethod yX12_after, Cond.selects RX12 yX12_after yX12_after, Cond.code yX12_after cX12_after 10 (some .int), Cond.methodLink RX12 163 yX12_fewer, Cond.static yX12_fewer, Cond.code yX12_fewer cX12_fewer 7 (some .int), Cond.methodLink RX12 167 yX12_over, Cond.instanceMethod yX12_over, Cond.selects RX12 yX12_over yX12_over, Cond.code yX12_over cX12_over 6 (some .int)] : List Cond), w ∈ wsX12_overBy := fun _ h => (List.mem_cons_of_mem _ (List.mem_append_left _ h))
theorem lf_X12_overBy_2 : ∀ w ∈ wsX120, w ∈ wsX12_overBy := fun _ h => (List.mem_cons_of_mem _ (List.mem_append_right _ h))
set_option maxRecDepth 20000 in
theorem ggX12_overBy_X12_ruleAct : GoodIn wsX12_overBy wsX12_ruleAct := (gd_cons (lf_X12_overBy_1 _ (List.mem_of_getElem? (i := 4) rfl)) rfl (goodIn_app (gd_cons (lf_X12_overBy_1 _ (List.mem_of_getElem? (i := 5) rfl)) rfl (gd_cons (lf_X12_overBy_1 _ (List.mem_of_getElem? (i := 6) rfl)) rfl (gd_cons (lf_X12_overBy_1 _ (List.mem_of_getElem? (i := 7) rfl)) rfl (gd_cons (lf_X12_overBy_1 _ (List.mem_of_getElem? (i := 8) rfl)) rfl (gd_cons (lf_X12_overBy_1 _ (List.mem_of_getElem? (i := 3) rfl)) rfl (gd_cons (lf_X12_overBy_1 _ (List.mem_of_getElem? (i := 9) rfl)) rfl (gd_nil _))))))) (goodIn_sub lf_X12_overBy_2 ga_wsX120)))
set_option maxRecDepth 20000 in
theorem gX12_overBy_X12_ruleAct : GoodIn wsX12_overBy (wsV RX12 208 RX12 yX12_ruleAct wsX12_ruleAct) := goodIn_app (gd_cons (lf_X12_overBy_1 _ (List.mem_of_getElem? (i := 0) rfl)) rfl (gd_cons (lf_X12_overBy_1 _ (List.mem_of_getElem? (i := 1) rfl)) rfl (gd_cons (lf_X12_overBy_1 _ (List.mem_of_getElem? (i := 2) rfl)) rfl (gd_cons (lf_X12_overBy_1 _ (List.mem_of_getElem? (i := 3) rfl)) rfl (gd_nil _))))) ggX12_overBy_X12_ruleAct
set_option maxRecDepth 20000 in
theorem ggX12_overBy_X12_after : GoodIn wsX12_overBy wsX12_after := (gd_cons (lf_X12_overBy_1 _ (List.mem_of_getElem? (i := 13) rfl)) rfl (goodIn_app (gd_cons (lf_X12_overBy_1 _ (List.mem_of_getElem? (i := 6) rfl)) rfl (gd_cons (lf_X12_overBy_1 _ (List.mem_of_getElem? (i := 7) rfl)) rfl (gd_cons (lf_X12_overBy_1 _ (List.mem_of_getElem? (i := 8) rfl)) rfl (gd_cons (lf_X12_overBy_1 _ (List.mem_of_getElem? (i := 3) rfl)) rfl (gd_cons (lf_X12_overBy_1 _ (List.mem_of_getElem? (i := 9) rfl)) rfl (gd_cons (lf_X12_overBy_1 _ (List.mem_of_getElem? (i := 14) rfl)) rfl (gd_cons (lf_X12_overBy_1 _ (List.mem_of_getElem? (i := 15) rfl)) rfl (gd_cons (lf_X12_overBy_1 _ (List.mem_of_getElem? (i := 16) rfl)) rfl (gd_nil _))))))))) (goodIn_sub lf_X12_overBy_2 ga_wsX120)))
set_option maxRecDepth 20000 in
theorem gX12_overBy_X12_after : GoodIn wsX12_overBy (wsV RX12 174 RX12 yX12_after wsX12_after) := goodIn_app (gd_cons (lf_X12_overBy_1 _ (List.mem_of_getElem? (i := 10) rfl)) rfl (gd_cons (lf_X12_overBy_1 _ (List.mem_of_getElem? (i := 11) rfl)) rfl (gd_cons (lf_X12_overBy_1 _ (List.mem_of_getElem? (i := 12) rfl)) rfl (gd_cons (lf_X12_overBy_1 _ (List.mem_of_getElem? (i := 3) rfl)) rfl (gd_nil _))))) ggX12_overBy_X12_after
set_option maxRecDepth 20000 in
theorem ggX12_overBy_X12_over : GoodIn wsX12_overBy wsX12_over := (gd_cons (lf_X12_overBy_1 _ (List.mem_of_getElem? (i := 20) rfl)) rfl (goodIn_app (gd_cons (lf_X12_overBy_1 _ (List.mem_of_getElem? (i := 6) rfl)) rfl (gd_nil _)) (goodIn_sub lf_X12_overBy_2 ga_wsX120)))
set_option maxRecDepth 20000 in
theorem gX12_overBy_X12_over : GoodIn wsX12_overBy (wsV RX12 167 RX12 yX12_over wsX12_over) := goodIn_app (gd_cons (lf_X12_overBy_1 _ (List.mem_of_getElem? (i := 17) rfl)) rfl (gd_cons (lf_X12_overBy_1 _ (List.mem_of_getElem? (i := 18) rfl)) rfl (gd_cons (lf_X12_overBy_1 _ (List.mem_of_getElem? (i := 19) rfl)) rfl (gd_cons (lf_X12_overBy_1 _ (List.mem_of_getElem? (i := 3) rfl)) rfl (gd_nil _))))) ggX12_overBy_X12_over
theorem dX12_overBy_0 : decode cX12_overBy 0 = .ok (.aload_n 0, 1) := dq_42 (dst 0 rd_prog_14_method_50_code_0 rfl)
theorem dX12_overBy_1 : decode cX12_overBy 1 = .ok (.iload_n 1, 1) := dq_27 (dst 1 rd_prog_14_method_50_code_0 rfl)
theorem dX12_overBy_2 : decode cX12_overBy 2 = .ok (.iload_n 2, 1) := dq_28 (dst 2 rd_prog_14_method_50_code_0 rfl)
theorem dX12_overBy_3 : decode cX12_overBy 3 = .ok (.iload_n 3, 1) := dq_29 (dst 3 rd_prog_14_method_50_code_0 rfl)
theorem dX12_overBy_4 : decode cX12_overBy 4 = .ok (.invokevirtual 208, 3) := dq_182 (dst 4 rd_prog_14_method_50_code_0 rfl) rfl
theorem dX12_overBy_7 : decode cX12_overBy 7 = .ok (.istore 4, 2) := dq_54 (dst 7 rd_prog_14_method_50_code_0 rfl) rfl
theorem dX12_overBy_9 : decode cX12_overBy 9 = .ok (.aload_n 0, 1) := dq_42 (dst 9 rd_prog_14_method_50_code_0 rfl)
theorem dX12_overBy_10 : decode cX12_overBy 10 = .ok (.iload_n 2, 1) := dq_28 (dst 10 rd_prog_14_method_50_code_0 rfl)
theorem dX12_overBy_11 : decode cX12_overBy 11 = .ok (.aload_n 0, 1) := dq_42 (dst 11 rd_prog_14_method_50_code_0 rfl)
theorem dX12_overBy_12 : decode cX12_overBy 12 = .ok (.iload_n 2, 1) := dq_28 (dst 12 rd_prog_14_method_50_code_0 rfl)
theorem dX12_overBy_13 : decode cX12_overBy 13 = .ok (.iload_n 3, 1) := dq_29 (dst 13 rd_prog_14_method_50_code_0 rfl)
theorem dX12_overBy_14 : decode cX12_overBy 14 = .ok (.iload 4, 2) := dq_21 (dst 14 rd_prog_14_method_50_code_0 rfl) rfl
theorem dX12_overBy_16 : decode cX12_overBy 16 = .ok (.invokevirtual 174, 3) := dq_182 (dst 16 rd_prog_14_method_50_code_0 rfl) rfl
theorem dX12_overBy_19 : decode cX12_overBy 19 = .ok (.iconst 0, 1) := dq_3 (dst 19 rd_prog_14_method_50_code_0 rfl)
theorem dX12_overBy_20 : decode cX12_overBy 20 = .ok (.iload 4, 2) := dq_21 (dst 20 rd_prog_14_method_50_code_0 rfl) rfl
theorem dX12_overBy_22 : decode cX12_overBy 22 = .ok (.invokevirtual 167, 3) := dq_182 (dst 22 rd_prog_14_method_50_code_0 rfl) rfl
theorem dX12_overBy_25 : decode cX12_overBy 25 = .ok (.ireturn, 1) := dq_172 (dst 25 rd_prog_14_method_50_code_0 rfl)
theorem lf_X12_shortly_1 : ∀ w ∈ wsX12_shortly_r1, w ∈ wsX12_shortly := fun _ h => (List.mem_cons_of_mem _ (List.mem_append_left _ (List.mem_append_left _ h)))
theorem lf_X12_shortly_2 : ∀ w ∈ wsX12_shortly_r2, w ∈ wsX12_shortly := fun _ h => (List.mem_cons_of_mem _ (List.mem_append_left _ (List.mem_append_right _ (List.mem_append_left _ h))))
theorem lf_X12_shortly_3 : ∀ w ∈ wsX12_shortly_r3, w ∈ wsX12_shortly := fun _ h => (List.mem_cons_of_mem _ (List.mem_append_left _ (List.mem_append_right _ (List.mem_append_right _ (List.mem_append_left _ h)))))
theorem lf_X12_shortly_4 : ∀ w ∈ wsX12_shortly_r4, w ∈ wsX12_shortly := fun _ h => (List.mem_cons_of_mem _ (List.mem_append_left _ (List.mem_append_right _ (List.mem_append_right _ (List.mem_append_right _ h)))))
theorem lf_X12_shortly_5 : ∀ w ∈ wsX120, w ∈ wsX12_shortly := fun _ h => (List.mem_cons_of_mem _ (List.mem_append_right _ h))
set_option maxRecDepth 20000 in
theorem ggX12_shortly_X12_isRule : GoodIn wsX12_shortly wsX12_isRule := (gd_cons (lf_X12_shortly_1 _ (List.mem_of_getElem? (i := 5) rfl)) rfl (gd_cons (lf_X12_shortly_1 _ (List.mem_of_getElem? (i := 6) rfl)) rfl (gd_cons (lf_X12_shortly_1 _ (List.mem_of_getElem? (i := 7) rfl)) rfl (gd_cons (lf_X12_shortly_1 _ (List.mem_of_getElem? (i := 8) rfl)) rfl (gd_cons (lf_X12_shortly_1 _ (List.mem_of_getElem? (i := 4) rfl)) rfl (gd_cons (lf_X12_shortly_1 _ (List.mem_of_getElem? (i := 9) rfl)) rfl (gd_nil _)))))))
set_option maxRecDepth 20000 in
theorem gX12_shortly_X12_isRule : GoodIn wsX12_shortly (va_wsS RX12 148 yX12_isRule wsX12_isRule) := goodIn_app (gd_cons (lf_X12_shortly_1 _ (List.mem_of_getElem? (i := 2) rfl)) rfl (gd_cons (lf_X12_shortly_1 _ (List.mem_of_getElem? (i := 3) rfl)) rfl (gd_cons (lf_X12_shortly_1 _ (List.mem_of_getElem? (i := 4) rfl)) rfl (gd_nil _)))) ggX12_shortly_X12_isRule
set_option maxRecDepth 20000 in
theorem ggX12_shortly_X12_isWeek : GoodIn wsX12_shortly wsX12_isWeek := (gd_cons (lf_X12_shortly_1 _ (List.mem_of_getElem? (i := 13) rfl)) rfl (goodIn_app (gd_cons (lf_X12_shortly_1 _ (List.mem_of_getElem? (i := 14) rfl)) rfl (gd_cons (lf_X12_shortly_1 _ (List.mem_of_getElem? (i := 7) rfl)) rfl (gd_cons (lf_X12_shortly_1 _ (List.mem_of_getElem? (i := 8) rfl)) rfl (gd_cons (lf_X12_shortly_1 _ (List.mem_of_getElem? (i := 4) rfl)) rfl (gd_cons (lf_X12_shortly_1 _ (List.mem_of_getElem? (i := 9) rfl)) rfl (gd_nil _)))))) (goodIn_sub lf_X12_shortly_5 ga_wsX120)))
set_option maxRecDepth 20000 in
theorem gX12_shortly_X12_isWeek : GoodIn wsX12_shortly (wsV RX12 152 RX12 yX12_isWeek wsX12_isWeek) := goodIn_app (gd_cons (lf_X12_shortly_1 _ (List.mem_of_getElem? (i := 10) rfl)) rfl (gd_cons (lf_X12_shortly_1 _ (List.mem_of_getElem? (i := 11) rfl)) rfl (gd_cons (lf_X12_shortly_1 _ (List.mem_of_getElem? (i := 12) rfl)) rfl (gd_cons (lf_X12_shortly_1 _ (List.mem_of_getElem? (i := 4) rfl)) rfl (gd_nil _))))) ggX12_shortly_X12_isWeek
set_option maxRecDepth 20000 in
theorem ggX12_shortly_X12_layLikely : GoodIn wsX12_shortly wsX12_layLikely := (gd_cons (lf_X12_shortly_1 _ (List.mem_of_getElem? (i := 18) rfl)) rfl (goodIn_app (goodIn_app (gd_cons (lf_X12_shortly_1 _ (List.mem_of_getElem? (i := 1) rfl)) rfl (gd_cons (lf_X12_shortly_1 _ (List.mem_of_getElem? (i := 19) rfl)) rfl (gd_cons (lf_X12_shortly_1 _ (List.mem_of_getElem? (i := 20) rfl)) rfl (gd_cons (lf_X12_shortly_1 _ (List.mem_of_getElem? (i := 21) rfl)) rfl (gd_cons (lf_X12_shortly_1 _ (List.mem_of_getElem? (i := 22) rfl)) rfl (gd_cons (lf_X12_shortly_1 _ (List.mem_of_getElem? (i := 4) rfl)) rfl (gd_cons (lf_X12_shortly_1 _ (List.mem_of_getElem? (i := 23) rfl)) rfl (gd_cons (lf_X12_shortly_2 _ (List.mem_of_getElem? (i := 0) rfl)) rfl (gd_cons (lf_X12_shortly_1 _ (List.mem_of_getElem? (i := 14) rfl)) rfl (gd_cons (lf_X12_shortly_2 _ (List.mem_of_getElem? (i := 1) rfl)) rfl (gd_cons (lf_X12_shortly_2 _ (List.mem_of_getElem? (i := 2) rfl)) rfl (gd_cons (lf_X12_shortly_2 _ (List.mem_of_getElem? (i := 3) rfl)) rfl (gd_cons (lf_X12_shortly_2 _ (List.mem_of_getElem? (i := 4) rfl)) rfl (gd_cons (lf_X12_shortly_2 _ (List.mem_of_getElem? (i := 5) rfl)) rfl (gd_cons (lf_X12_shortly_2 _ (List.mem_of_getElem? (i := 6) rfl)) rfl (gd_cons (lf_X12_shortly_2 _ (List.mem_of_getElem? (i := 7) rfl)) rfl (gd_cons (lf_X12_shortly_2 _ (List.mem_of_getElem? (i := 8) rfl)) rfl (gd_cons (lf_X12_shortly_2 _ (List.mem_of_getElem? (i := 9) rfl)) rfl (gd_cons (lf_X12_shortly_2 _ (List.mem_of_getElem? (i := 10) rfl)) rfl (gd_cons (lf_X12_shortly_2 _ (List.mem_of_getElem? (i := 11) rfl)) rfl (gd_cons (lf_X12_shortly_2 _ (List.mem_of_getElem? (i := 12) rfl)) rfl (gd_cons (lf_X12_shortly_2 _ (List.mem_of_getElem? (i := 13) rfl)) rfl (gd_cons (lf_X12_shortly_2 _ (List.mem_of_getElem? (i := 14) rfl)) rfl (gd_cons (lf_X12_shortly_2 _ (List.mem_of_getElem? (i := 15) rfl)) rfl (gd_nil _))))))))))))))))))))))))) (gd_cons (lf_X12_shortly_1 _ (List.mem_of_getElem? (i := 7) rfl)) rfl (gd_cons (lf_X12_shortly_1 _ (List.mem_of_getElem? (i := 8) rfl)) rfl (gd_cons (lf_X12_shortly_1 _ (List.mem_of_getElem? (i := 9) rfl)) rfl (gd_cons (lf_X12_shortly_2 _ (List.mem_of_getElem? (i := 16) rfl)) rfl (gd_cons (lf_X12_shortly_2 _ (List.mem_of_getElem? (i := 17) rfl)) rfl (gd_cons (lf_X12_shortly_2 _ (List.mem_of_getElem? (i := 18) rfl)) rfl (gd_cons (lf_X12_shortly_2 _ (List.mem_of_getElem? (i := 19) rfl)) rfl (gd_cons (lf_X12_shortly_2 _ (List.mem_of_getElem? (i := 20) rfl)) rfl (gd_cons (lf_X12_shortly_2 _ (List.mem_of_getElem? (i := 21) rfl)) rfl (gd_cons (lf_X12_shortly_2 _ (List.mem_of_getElem? (i := 22) rfl)) rfl (gd_cons (lf_X12_shortly_2 _ (List.mem_of_getElem? (i := 23) rfl)) rfl (gd_cons (lf_X12_shortly_3 _ (List.mem_of_getElem? (i := 0) rfl)) rfl (gd_cons (lf_X12_shortly_3 _ (List.mem_of_getElem? (i := 1) rfl)) rfl (gd_cons (lf_X12_shortly_3 _ (List.mem_of_getElem? (i := 2) rfl)) rfl (gd_cons (lf_X12_shortly_3 _ (List.mem_of_getElem? (i := 3) rfl)) rfl (gd_cons (lf_X12_shortly_3 _ (List.mem_of_getElem? (i := 4) rfl)) rfl (gd_cons (lf_X12_shortly_3 _ (List.mem_of_getElem? (i := 5) rfl)) rfl (gd_cons (lf_X12_shortly_3 _ (List.mem_of_getElem? (i := 6) rfl)) rfl (gd_cons (lf_X12_shortly_3 _ (List.mem_of_getElem? (i := 7) rfl)) rfl (gd_cons (lf_X12_shortly_3 _ (List.mem_of_getElem? (i := 8) rfl)) rfl (gd_cons (lf_X12_shortly_3 _ (List.mem_of_getElem? (i := 9) rfl)) rfl (gd_nil _))))))))))))))))))))))) (goodIn_sub lf_X12_shortly_5 ga_wsX120)))
set_option maxRecDepth 20000 in
theorem gX12_shortly_X12_layLikely : GoodIn wsX12_shortly (wsV RX12 227 RX12 yX12_layLikely wsX12_layLikely) := goodIn_app (gd_cons (lf_X12_shortly_1 _ (List.mem_of_getElem? (i := 15) rfl)) rfl (gd_cons (lf_X12_shortly_1 _ (List.mem_of_getElem? (i := 16) rfl)) rfl (gd_cons (lf_X12_shortly_1 _ (List.mem_of_getElem? (i := 17) rfl)) rfl (gd_cons (lf_X12_shortly_1 _ (List.mem_of_getElem? (i := 4) rfl)) rfl (gd_nil _))))) ggX12_shortly_X12_layLikely
set_option maxRecDepth 20000 in
theorem ggX12_shortly_X12_overBy : GoodIn wsX12_shortly wsX12_overBy := (gd_cons (lf_X12_shortly_3 _ (List.mem_of_getElem? (i := 13) rfl)) rfl (goodIn_app (gd_cons (lf_X12_shortly_1 _ (List.mem_of_getElem? (i := 20) rfl)) rfl (gd_cons (lf_X12_shortly_1 _ (List.mem_of_getElem? (i := 21) rfl)) rfl (gd_cons (lf_X12_shortly_1 _ (List.mem_of_getElem? (i := 22) rfl)) rfl (gd_cons (lf_X12_shortly_1 _ (List.mem_of_getElem? (i := 4) rfl)) rfl (gd_cons (lf_X12_shortly_1 _ (List.mem_of_getElem? (i := 23) rfl)) rfl (gd_cons (lf_X12_shortly_2 _ (List.mem_of_getElem? (i := 0) rfl)) rfl (gd_cons (lf_X12_shortly_1 _ (List.mem_of_getElem? (i := 14) rfl)) rfl (gd_cons (lf_X12_shortly_2 _ (List.mem_of_getElem? (i := 1) rfl)) rfl (gd_cons (lf_X12_shortly_2 _ (List.mem_of_getElem? (i := 2) rfl)) rfl (gd_cons (lf_X12_shortly_2 _ (List.mem_of_getElem? (i := 3) rfl)) rfl (gd_cons (lf_X12_shortly_2 _ (List.mem_of_getElem? (i := 4) rfl)) rfl (gd_cons (lf_X12_shortly_2 _ (List.mem_of_getElem? (i := 5) rfl)) rfl (gd_cons (lf_X12_shortly_2 _ (List.mem_of_getElem? (i := 6) rfl)) rfl (gd_cons (lf_X12_shortly_2 _ (List.mem_of_getElem? (i := 7) rfl)) rfl (gd_cons (lf_X12_shortly_2 _ (List.mem_of_getElem? (i := 8) rfl)) rfl (gd_cons (lf_X12_shortly_2 _ (List.mem_of_getElem? (i := 9) rfl)) rfl (gd_cons (lf_X12_shortly_2 _ (List.mem_of_getElem? (i := 10) rfl)) rfl (gd_cons (lf_X12_shortly_3 _ (List.mem_of_getElem? (i := 14) rfl)) rfl (gd_cons (lf_X12_shortly_3 _ (List.mem_of_getElem? (i := 15) rfl)) rfl (gd_cons (lf_X12_shortly_3 _ (List.mem_of_getElem? (i := 16) rfl)) rfl (gd_cons (lf_X12_shortly_3 _ (List.mem_of_getElem? (i := 17) rfl)) rfl (gd_nil _)))))))))))))))))))))) (goodIn_sub lf_X12_shortly_5 ga_wsX120)))
set_option maxRecDepth 20000 in
theorem gX12_shortly_X12_overBy : GoodIn wsX12_shortly (wsV RX12 231 RX12 yX12_overBy wsX12_overBy) := goodIn_app (gd_cons (lf_X12_shortly_3 _ (List.mem_of_getElem? (i := 10) rfl)) rfl (gd_cons (lf_X12_shortly_3 _ (List.mem_of_getElem? (i := 11) rfl)) rfl (gd_cons (lf_X12_shortly_3 _ (List.mem_of_getElem? (i := 12) rfl)) rfl (gd_cons (lf_X12_shortly_1 _ (List.mem_of_getElem? (i := 4) rfl)) rfl (gd_nil _))))) ggX12_shortly_X12_overBy
set_option maxRecDepth 20000 in
theorem ggX12_shortly_X12_parts : GoodIn wsX12_shortly wsX12_parts := (gd_cons (lf_X12_shortly_3 _ (List.mem_of_getElem? (i := 20) rfl)) rfl (gd_cons (lf_X12_shortly_3 _ (List.mem_of_getElem? (i := 21) rfl)) rfl (gd_nil _)))
set_option maxRecDepth 20000 in
theorem gX12_shortly_X12_parts : GoodIn wsX12_shortly (va_wsS RX12 214 yX12_parts wsX12_parts) := goodIn_app (gd_cons (lf_X12_shortly_3 _ (List.mem_of_getElem? (i := 18) rfl)) rfl (gd_cons (lf_X12_shortly_3 _ (List.mem_of_getElem? (i := 19) rfl)) rfl (gd_cons (lf_X12_shortly_1 _ (List.mem_of_getElem? (i := 4) rfl)) rfl (gd_nil _)))) ggX12_shortly_X12_parts
set_option maxRecDepth 20000 in
theorem ggX12_shortly_X12_told : GoodIn wsX12_shortly wsX12_told := (gd_cons (lf_X12_shortly_4 _ (List.mem_of_getElem? (i := 0) rfl)) rfl (gd_cons (lf_X12_shortly_4 _ (List.mem_of_getElem? (i := 1) rfl)) rfl (gd_cons (lf_X12_shortly_4 _ (List.mem_of_getElem? (i := 2) rfl)) rfl (gd_cons (lf_X12_shortly_1 _ (List.mem_of_getElem? (i := 4) rfl)) rfl (gd_cons (lf_X12_shortly_4 _ (List.mem_of_getElem? (i := 3) rfl)) rfl (gd_nil _))))))
set_option maxRecDepth 20000 in
theorem gX12_shortly_X12_told : GoodIn wsX12_shortly (va_wsS RX12 202 yX12_told wsX12_told) := goodIn_app (gd_cons (lf_X12_shortly_3 _ (List.mem_of_getElem? (i := 22) rfl)) rfl (gd_cons (lf_X12_shortly_3 _ (List.mem_of_getElem? (i := 23) rfl)) rfl (gd_cons (lf_X12_shortly_1 _ (List.mem_of_getElem? (i := 4) rfl)) rfl (gd_nil _)))) ggX12_shortly_X12_told
theorem dX12_shortly_0 : decode cX12_shortly 0 = .ok (.iload_n 1, 1) := dq_27 (dst 0 rd_prog_14_method_51_code_0 rfl)
theorem dX12_shortly_1 : decode cX12_shortly 1 = .ok (.invokestatic 148, 3) := dq_184 (dst 1 rd_prog_14_method_51_code_0 rfl) rfl
theorem dX12_shortly_4 : decode cX12_shortly 4 = .ok (.ifCond .eq 11, 3) := dq_153 (dst 4 rd_prog_14_method_51_code_0 rfl) (by decide +kernel)
theorem dX12_shortly_7 : decode cX12_shortly 7 = .ok (.aload_n 0, 1) := dq_42 (dst 7 rd_prog_14_method_51_code_0 rfl)
theorem dX12_shortly_8 : decode cX12_shortly 8 = .ok (.iload_n 2, 1) := dq_28 (dst 8 rd_prog_14_method_51_code_0 rfl)
theorem dX12_shortly_9 : decode cX12_shortly 9 = .ok (.invokevirtual 152, 3) := dq_182 (dst 9 rd_prog_14_method_51_code_0 rfl) rfl
theorem dX12_shortly_12 : decode cX12_shortly 12 = .ok (.ifCond .ne 7, 3) := dq_154 (dst 12 rd_prog_14_method_51_code_0 rfl) (by decide +kernel)
theorem dX12_shortly_15 : decode cX12_shortly 15 = .ok (.ldc2_w 221, 3) := dq_20 (dst 15 rd_prog_14_method_51_code_0 rfl) rfl
theorem dX12_shortly_18 : decode cX12_shortly 18 = .ok (.lreturn, 1) := dq_173 (dst 18 rd_prog_14_method_51_code_0 rfl)
theorem dX12_shortly_19 : decode cX12_shortly 19 = .ok (.aload_n 0, 1) := dq_42 (dst 19 rd_prog_14_method_51_code_0 rfl)
theorem dX12_shortly_20 : decode cX12_shortly 20 = .ok (.iload_n 1, 1) := dq_27 (dst 20 rd_prog_14_method_51_code_0 rfl)
theorem dX12_shortly_21 : decode cX12_shortly 21 = .ok (.iload_n 2, 1) := dq_28 (dst 21 rd_prog_14_method_51_code_0 rfl)
theorem dX12_shortly_22 : decode cX12_shortly 22 = .ok (.invokevirtual 227, 3) := dq_182 (dst 22 rd_prog_14_method_51_code_0 rfl) rfl
theorem dX12_shortly_25 : decode cX12_shortly 25 = .ok (.lconst 0, 1) := dq_9 (dst 25 rd_prog_14_method_51_code_0 rfl)
theorem dX12_shortly_26 : decode cX12_shortly 26 = .ok (.lstore 4, 2) := dq_55 (dst 26 rd_prog_14_method_51_code_0 rfl) rfl
theorem dX12_shortly_28 : decode cX12_shortly 28 = .ok (.iconst 0, 1) := dq_3 (dst 28 rd_prog_14_method_51_code_0 rfl)
theorem dX12_shortly_29 : decode cX12_shortly 29 = .ok (.istore 6, 2) := dq_54 (dst 29 rd_prog_14_method_51_code_0 rfl) rfl
theorem dX12_shortly_31 : decode cX12_shortly 31 = .ok (.iload 6, 2) := dq_21 (dst 31 rd_prog_14_method_51_code_0 rfl) rfl
theorem dX12_shortly_33 : decode cX12_shortly 33 = .ok (.bipush 50, 2) := dq_16 (dst 1 rd_prog_14_method_51_code_1 rfl) (by decide +kernel)
theorem dX12_shortly_35 : decode cX12_shortly 35 = .ok (.if_icmp .ge 48, 3) := dq_162 (dst 3 rd_prog_14_method_51_code_1 rfl) (by decide +kernel)
theorem dX12_shortly_38 : decode cX12_shortly 38 = .ok (.lload 4, 2) := dq_22 (dst 6 rd_prog_14_method_51_code_1 rfl) rfl
theorem dX12_shortly_40 : decode cX12_shortly 40 = .ok (.aload_n 0, 1) := dq_42 (dst 8 rd_prog_14_method_51_code_1 rfl)
theorem dX12_shortly_41 : decode cX12_shortly 41 = .ok (.getfield 32, 3) := dq_180 (dst 9 rd_prog_14_method_51_code_1 rfl) rfl
theorem dX12_shortly_44 : decode cX12_shortly 44 = .ok (.iload 6, 2) := dq_21 (dst 12 rd_prog_14_method_51_code_1 rfl) rfl
theorem dX12_shortly_46 : decode cX12_shortly 46 = .ok (.laload, 1) := dq_47 (dst 14 rd_prog_14_method_51_code_1 rfl)
theorem dX12_shortly_47 : decode cX12_shortly 47 = .ok (.lconst 0, 1) := dq_9 (dst 15 rd_prog_14_method_51_code_1 rfl)
theorem dX12_shortly_48 : decode cX12_shortly 48 = .ok (.lcmp, 1) := dq_148 (dst 16 rd_prog_14_method_51_code_1 rfl)
theorem dX12_shortly_49 : decode cX12_shortly 49 = .ok (.ifCond .le 24, 3) := dq_158 (dst 17 rd_prog_14_method_51_code_1 rfl) (by decide +kernel)
theorem dX12_shortly_52 : decode cX12_shortly 52 = .ok (.aload_n 0, 1) := dq_42 (dst 20 rd_prog_14_method_51_code_1 rfl)
theorem dX12_shortly_53 : decode cX12_shortly 53 = .ok (.iload_n 1, 1) := dq_27 (dst 21 rd_prog_14_method_51_code_1 rfl)
theorem dX12_shortly_54 : decode cX12_shortly 54 = .ok (.iload_n 2, 1) := dq_28 (dst 22 rd_prog_14_method_51_code_1 rfl)
theorem dX12_shortly_55 : decode cX12_shortly 55 = .ok (.iload 6, 2) := dq_21 (dst 23 rd_prog_14_method_51_code_1 rfl) rfl
theorem dX12_shortly_57 : decode cX12_shortly 57 = .ok (.invokevirtual 231, 3) := dq_182 (dst 25 rd_prog_14_method_51_code_1 rfl) rfl
theorem dX12_shortly_60 : decode cX12_shortly 60 = .ok (.ifCond .ge 13, 3) := dq_156 (dst 28 rd_prog_14_method_51_code_1 rfl) (by decide +kernel)
theorem dX12_shortly_63 : decode cX12_shortly 63 = .ok (.aload_n 0, 1) := dq_42 (dst 31 rd_prog_14_method_51_code_1 rfl)
theorem dX12_shortly_64 : decode cX12_shortly 64 = .ok (.getfield 32, 3) := dq_180 (dst 0 rd_prog_14_method_51_code_2 rfl) rfl
theorem dX12_shortly_67 : decode cX12_shortly 67 = .ok (.iload 6, 2) := dq_21 (dst 3 rd_prog_14_method_51_code_2 rfl) rfl
theorem dX12_shortly_69 : decode cX12_shortly 69 = .ok (.laload, 1) := dq_47 (dst 5 rd_prog_14_method_51_code_2 rfl)
theorem dX12_shortly_70 : decode cX12_shortly 70 = .ok (.goto 4, 3) := dq_167 (dst 6 rd_prog_14_method_51_code_2 rfl) (by decide +kernel)
theorem dX12_shortly_73 : decode cX12_shortly 73 = .ok (.lconst 0, 1) := dq_9 (dst 9 rd_prog_14_method_51_code_2 rfl)
theorem dX12_shortly_74 : decode cX12_shortly 74 = .ok (.ladd, 1) := dq_97 (dst 10 rd_prog_14_method_51_code_2 rfl)
theorem dX12_shortly_75 : decode cX12_shortly 75 = .ok (.lstore 4, 2) := dq_55 (dst 11 rd_prog_14_method_51_code_2 rfl) rfl
theorem dX12_shortly_77 : decode cX12_shortly 77 = .ok (.iinc 6 1, 3) := dq_132 (dst 13 rd_prog_14_method_51_code_2 rfl) rfl (by decide +kernel)
theorem dX12_shortly_80 : decode cX12_shortly 80 = .ok (.goto (-49), 3) := dq_167 (dst 16 rd_prog_14_method_51_code_2 rfl) (by decide +kernel)
theorem dX12_shortly_83 : decode cX12_shortly 83 = .ok (.lload 4, 2) := dq_22 (dst 19 rd_prog_14_method_51_code_2 rfl) rfl
theorem dX12_shortly_85 : decode cX12_shortly 85 = .ok (.iload_n 2, 1) := dq_28 (dst 21 rd_prog_14_method_51_code_2 rfl)
theorem dX12_shortly_86 : decode cX12_shortly 86 = .ok (.invokestatic 214, 3) := dq_184 (dst 22 rd_prog_14_method_51_code_2 rfl) rfl
theorem dX12_shortly_89 : decode cX12_shortly 89 = .ok (.iload_n 3, 1) := dq_29 (dst 25 rd_prog_14_method_51_code_2 rfl)
theorem dX12_shortly_90 : decode cX12_shortly 90 = .ok (.invokestatic 202, 3) := dq_184 (dst 26 rd_prog_14_method_51_code_2 rfl) rfl
theorem dX12_shortly_93 : decode cX12_shortly 93 = .ok (.lreturn, 1) := dq_173 (dst 29 rd_prog_14_method_51_code_2 rfl)
theorem lf_X12_idle_1 : ∀ w ∈ wsX12_idle_r1, w ∈ wsX12_idle := fun _ h => (List.mem_cons_of_mem _ (List.mem_append_left _ (List.mem_append_left _ h)))
theorem lf_X12_idle_2 : ∀ w ∈ wsX12_idle_r2, w ∈ wsX12_idle := fun _ h => (List.mem_cons_of_mem _ (List.mem_append_left _ (List.mem_append_right _ (List.mem_append_left _ h))))
theorem lf_X12_idle_3 : ∀ w ∈ wsX12_idle_r3, w ∈ wsX12_idle := fun _ h => (List.mem_cons_of_mem _ (List.mem_append_left _ (List.mem_append_right _ (List.mem_append_right _ (List.mem_append_left _ h)))))
theorem lf_X12_idle_4 : ∀ w ∈ wsX12_idle_r4, w ∈ wsX12_idle := fun _ h => (List.mem_cons_of_mem _ (List.mem_append_left _ (List.mem_append_right _ (List.mem_append_right _ (List.mem_append_right _ h)))))
theorem lf_X12_idle_5 : ∀ w ∈ wsX120, w ∈ wsX12_idle := fun _ h => (List.mem_cons_of_mem _ (List.mem_append_right _ h))
set_option maxRecDepth 20000 in
theorem ggX12_idle_X12_isRule : GoodIn wsX12_idle wsX12_isRule := (gd_cons (lf_X12_idle_1 _ (List.mem_of_getElem? (i := 5) rfl)) rfl (gd_cons (lf_X12_idle_1 _ (List.mem_of_getElem? (i := 6) rfl)) rfl (gd_cons (lf_X12_idle_1 _ (List.mem_of_getElem? (i := 7) rfl)) rfl (gd_cons (lf_X12_idle_1 _ (List.mem_of_getElem? (i := 8) rfl)) rfl (gd_cons (lf_X12_idle_1 _ (List.mem_of_getElem? (i := 4) rfl)) rfl (gd_cons (lf_X12_idle_1 _ (List.mem_of_getElem? (i := 9) rfl)) rfl (gd_nil _)))))))
set_option maxRecDepth 20000 in
theorem gX12_idle_X12_isRule : GoodIn wsX12_idle (va_wsS RX12 148 yX12_isRule wsX12_isRule) := goodIn_app (gd_cons (lf_X12_idle_1 _ (List.mem_of_getElem? (i := 2) rfl)) rfl (gd_cons (lf_X12_idle_1 _ (List.mem_of_getElem? (i := 3) rfl)) rfl (gd_cons (lf_X12_idle_1 _ (List.mem_of_getElem? (i := 4) rfl)) rfl (gd_nil _)))) ggX12_idle_X12_isRule
set_option maxRecDepth 20000 in
theorem ggX12_idle_X12_isWeek : GoodIn wsX12_idle wsX12_isWeek := (gd_cons (lf_X12_idle_1 _ (List.mem_of_getElem? (i := 13) rfl)) rfl (goodIn_app (gd_cons (lf_X12_idle_1 _ (List.mem_of_getElem? (i := 14) rfl)) rfl (gd_cons (lf_X12_idle_1 _ (List.mem_of_getElem? (i := 7) rfl)) rfl (gd_cons (lf_X12_idle_1 _ (List.mem_of_getElem? (i := 8) rfl)) rfl (gd_cons (lf_X12_idle_1 _ (List.mem_of_getElem? (i := 4) rfl)) rfl (gd_cons (lf_X12_idle_1 _ (List.mem_of_getElem? (i := 9) rfl)) rfl (gd_nil _)))))) (goodIn_sub lf_X12_idle_5 ga_wsX120)))
set_option maxRecDepth 20000 in
theorem gX12_idle_X12_isWeek : GoodIn wsX12_idle (wsV RX12 152 RX12 yX12_isWeek wsX12_isWeek) := goodIn_app (gd_cons (lf_X12_idle_1 _ (List.mem_of_getElem? (i := 10) rfl)) rfl (gd_cons (lf_X12_idle_1 _ (List.mem_of_getElem? (i := 11) rfl)) rfl (gd_cons (lf_X12_idle_1 _ (List.mem_of_getElem? (i := 12) rfl)) rfl (gd_cons (lf_X12_idle_1 _ (List.mem_of_getElem? (i := 4) rfl)) rfl (gd_nil _))))) ggX12_idle_X12_isWeek
set_option maxRecDepth 20000 in
theorem ggX12_idle_X12_layLikely : GoodIn wsX12_idle wsX12_layLikely := (gd_cons (lf_X12_idle_1 _ (List.mem_of_getElem? (i := 18) rfl)) rfl (goodIn_app (goodIn_app (gd_cons (lf_X12_idle_1 _ (List.mem_of_getElem? (i := 1) rfl)) rfl (gd_cons (lf_X12_idle_1 _ (List.mem_of_getElem? (i := 19) rfl)) rfl (gd_cons (lf_X12_idle_1 _ (List.mem_of_getElem? (i := 20) rfl)) rfl (gd_cons (lf_X12_idle_1 _ (List.mem_of_getElem? (i := 21) rfl)) rfl (gd_cons (lf_X12_idle_1 _ (List.mem_of_getElem? (i := 22) rfl)) rfl (gd_cons (lf_X12_idle_1 _ (List.mem_of_getElem? (i := 4) rfl)) rfl (gd_cons (lf_X12_idle_1 _ (List.mem_of_getElem? (i := 23) rfl)) rfl (gd_cons (lf_X12_idle_2 _ (List.mem_of_getElem? (i := 0) rfl)) rfl (gd_cons (lf_X12_idle_1 _ (List.mem_of_getElem? (i := 14) rfl)) rfl (gd_cons (lf_X12_idle_2 _ (List.mem_of_getElem? (i := 1) rfl)) rfl (gd_cons (lf_X12_idle_2 _ (List.mem_of_getElem? (i := 2) rfl)) rfl (gd_cons (lf_X12_idle_2 _ (List.mem_of_getElem? (i := 3) rfl)) rfl (gd_cons (lf_X12_idle_2 _ (List.mem_of_getElem? (i := 4) rfl)) rfl (gd_cons (lf_X12_idle_2 _ (List.mem_of_getElem? (i := 5) rfl)) rfl (gd_cons (lf_X12_idle_2 _ (List.mem_of_getElem? (i := 6) rfl)) rfl (gd_cons (lf_X12_idle_2 _ (List.mem_of_getElem? (i := 7) rfl)) rfl (gd_cons (lf_X12_idle_2 _ (List.mem_of_getElem? (i := 8) rfl)) rfl (gd_cons (lf_X12_idle_2 _ (List.mem_of_getElem? (i := 9) rfl)) rfl (gd_cons (lf_X12_idle_2 _ (List.mem_of_getElem? (i := 10) rfl)) rfl (gd_cons (lf_X12_idle_2 _ (List.mem_of_getElem? (i := 11) rfl)) rfl (gd_cons (lf_X12_idle_2 _ (List.mem_of_getElem? (i := 12) rfl)) rfl (gd_cons (lf_X12_idle_2 _ (List.mem_of_getElem? (i := 13) rfl)) rfl (gd_cons (lf_X12_idle_2 _ (List.mem_of_getElem? (i := 14) rfl)) rfl (gd_cons (lf_X12_idle_2 _ (List.mem_of_getElem? (i := 15) rfl)) rfl (gd_nil _))))))))))))))))))))))))) (gd_cons (lf_X12_idle_1 _ (List.mem_of_getElem? (i := 7) rfl)) rfl (gd_cons (lf_X12_idle_1 _ (List.mem_of_getElem? (i := 8) rfl)) rfl (gd_cons (lf_X12_idle_1 _ (List.mem_of_getElem? (i := 9) rfl)) rfl (gd_cons (lf_X12_idle_2 _ (List.mem_of_getElem? (i := 16) rfl)) rfl (gd_cons (lf_X12_idle_2 _ (List.mem_of_getElem? (i := 17) rfl)) rfl (gd_cons (lf_X12_idle_2 _ (List.mem_of_getElem? (i := 18) rfl)) rfl (gd_cons (lf_X12_idle_2 _ (List.mem_of_getElem? (i := 19) rfl)) rfl (gd_cons (lf_X12_idle_2 _ (List.mem_of_getElem? (i := 20) rfl)) rfl (gd_cons (lf_X12_idle_2 _ (List.mem_of_getElem? (i := 21) rfl)) rfl (gd_cons (lf_X12_idle_2 _ (List.mem_of_getElem? (i := 22) rfl)) rfl (gd_cons (lf_X12_idle_2 _ (List.mem_of_getElem? (i := 23) rfl)) rfl (gd_cons (lf_X12_idle_3 _ (List.mem_of_getElem? (i := 0) rfl)) rfl (gd_cons (lf_X12_idle_3 _ (List.mem_of_getElem? (i := 1) rfl)) rfl (gd_cons (lf_X12_idle_3 _ (List.mem_of_getElem? (i := 2) rfl)) rfl (gd_cons (lf_X12_idle_3 _ (List.mem_of_getElem? (i := 3) rfl)) rfl (gd_cons (lf_X12_idle_3 _ (List.mem_of_getElem? (i := 4) rfl)) rfl (gd_cons (lf_X12_idle_3 _ (List.mem_of_getElem? (i := 5) rfl)) rfl (gd_cons (lf_X12_idle_3 _ (List.mem_of_getElem? (i := 6) rfl)) rfl (gd_cons (lf_X12_idle_3 _ (List.mem_of_getElem? (i := 7) rfl)) rfl (gd_cons (lf_X12_idle_3 _ (List.mem_of_getElem? (i := 8) rfl)) rfl (gd_cons (lf_X12_idle_3 _ (List.mem_of_getElem? (i := 9) rfl)) rfl (gd_nil _))))))))))))))))))))))) (goodIn_sub lf_X12_idle_5 ga_wsX120)))
set_option maxRecDepth 20000 in
theorem gX12_idle_X12_layLikely : GoodIn wsX12_idle (wsV RX12 227 RX12 yX12_layLikely wsX12_layLikely) := goodIn_app (gd_cons (lf_X12_idle_1 _ (List.mem_of_getElem? (i := 15) rfl)) rfl (gd_cons (lf_X12_idle_1 _ (List.mem_of_getElem? (i := 16) rfl)) rfl (gd_cons (lf_X12_idle_1 _ (List.mem_of_getElem? (i := 17) rfl)) rfl (gd_cons (lf_X12_idle_1 _ (List.mem_of_getElem? (i := 4) rfl)) rfl (gd_nil _))))) ggX12_idle_X12_layLikely
set_option maxRecDepth 20000 in
theorem ggX12_idle_X12_overBy : GoodIn wsX12_idle wsX12_overBy := (gd_cons (lf_X12_idle_3 _ (List.mem_of_getElem? (i := 13) rfl)) rfl (goodIn_app (gd_cons (lf_X12_idle_1 _ (List.mem_of_getElem? (i := 20) rfl)) rfl (gd_cons (lf_X12_idle_1 _ (List.mem_of_getElem? (i := 21) rfl)) rfl (gd_cons (lf_X12_idle_1 _ (List.mem_of_getElem? (i := 22) rfl)) rfl (gd_cons (lf_X12_idle_1 _ (List.mem_of_getElem? (i := 4) rfl)) rfl (gd_cons (lf_X12_idle_1 _ (List.mem_of_getElem? (i := 23) rfl)) rfl (gd_cons (lf_X12_idle_2 _ (List.mem_of_getElem? (i := 0) rfl)) rfl (gd_cons (lf_X12_idle_1 _ (List.mem_of_getElem? (i := 14) rfl)) rfl (gd_cons (lf_X12_idle_2 _ (List.mem_of_getElem? (i := 1) rfl)) rfl (gd_cons (lf_X12_idle_2 _ (List.mem_of_getElem? (i := 2) rfl)) rfl (gd_cons (lf_X12_idle_2 _ (List.mem_of_getElem? (i := 3) rfl)) rfl (gd_cons (lf_X12_idle_2 _ (List.mem_of_getElem? (i := 4) rfl)) rfl (gd_cons (lf_X12_idle_2 _ (List.mem_of_getElem? (i := 5) rfl)) rfl (gd_cons (lf_X12_idle_2 _ (List.mem_of_getElem? (i := 6) rfl)) rfl (gd_cons (lf_X12_idle_2 _ (List.mem_of_getElem? (i := 7) rfl)) rfl (gd_cons (lf_X12_idle_2 _ (List.mem_of_getElem? (i := 8) rfl)) rfl (gd_cons (lf_X12_idle_2 _ (List.mem_of_getElem? (i := 9) rfl)) rfl (gd_cons (lf_X12_idle_2 _ (List.mem_of_getElem? (i := 10) rfl)) rfl (gd_cons (lf_X12_idle_3 _ (List.mem_of_getElem? (i := 14) rfl)) rfl (gd_cons (lf_X12_idle_3 _ (List.mem_of_getElem? (i := 15) rfl)) rfl (gd_cons (lf_X12_idle_3 _ (List.mem_of_getElem? (i := 16) rfl)) rfl (gd_cons (lf_X12_idle_3 _ (List.mem_of_getElem? (i := 17) rfl)) rfl (gd_nil _)))))))))))))))))))))) (goodIn_sub lf_X12_idle_5 ga_wsX120)))
set_option maxRecDepth 20000 in
theorem gX12_idle_X12_overBy : GoodIn wsX12_idle (wsV RX12 231 RX12 yX12_overBy wsX12_overBy) := goodIn_app (gd_cons (lf_X12_idle_3 _ (List.mem_of_getElem? (i := 10) rfl)) rfl (gd_cons (lf_X12_idle_3 _ (List.mem_of_getElem? (i := 11) rfl)) rfl (gd_cons (lf_X12_idle_3 _ (List.mem_of_getElem? (i := 12) rfl)) rfl (gd_cons (lf_X12_idle_1 _ (List.mem_of_getElem? (i := 4) rfl)) rfl (gd_nil _))))) ggX12_idle_X12_overBy
set_option maxRecDepth 20000 in
theorem ggX12_idle_X12_parts : GoodIn wsX12_idle wsX12_parts := (gd_cons (lf_X12_idle_3 _ (List.mem_of_getElem? (i := 20) rfl)) rfl (gd_cons (lf_X12_idle_3 _ (List.mem_of_getElem? (i := 21) rfl)) rfl (gd_nil _)))
set_option maxRecDepth 20000 in
theorem gX12_idle_X12_parts : GoodIn wsX12_idle (va_wsS RX12 214 yX12_parts wsX12_parts) := goodIn_app (gd_cons (lf_X12_idle_3 _ (List.mem_of_getElem? (i := 18) rfl)) rfl (gd_cons (lf_X12_idle_3 _ (List.mem_of_getElem? (i := 19) rfl)) rfl (gd_cons (lf_X12_idle_1 _ (List.mem_of_getElem? (i := 4) rfl)) rfl (gd_nil _)))) ggX12_idle_X12_parts
set_option maxRecDepth 20000 in
theorem ggX12_idle_X12_told : GoodIn wsX12_idle wsX12_told := (gd_cons (lf_X12_idle_4 _ (List.mem_of_getElem? (i := 0) rfl)) rfl (gd_cons (lf_X12_idle_4 _ (List.mem_of_getElem? (i := 1) rfl)) rfl (gd_cons (lf_X12_idle_4 _ (List.mem_of_getElem? (i := 2) rfl)) rfl (gd_cons (lf_X12_idle_1 _ (List.mem_of_getElem? (i := 4) rfl)) rfl (gd_cons (lf_X12_idle_4 _ (List.mem_of_getElem? (i := 3) rfl)) rfl (gd_nil _))))))
set_option maxRecDepth 20000 in
theorem gX12_idle_X12_told : GoodIn wsX12_idle (va_wsS RX12 202 yX12_told wsX12_told) := goodIn_app (gd_cons (lf_X12_idle_3 _ (List.mem_of_getElem? (i := 22) rfl)) rfl (gd_cons (lf_X12_idle_3 _ (List.mem_of_getElem? (i := 23) rfl)) rfl (gd_cons (lf_X12_idle_1 _ (List.mem_of_getElem? (i := 4) rfl)) rfl (gd_nil _)))) ggX12_idle_X12_told
theorem dX12_idle_0 : decode cX12_idle 0 = .ok (.iload_n 1, 1) := dq_27 (dst 0 rd_prog_14_method_52_code_0 rfl)
theorem dX12_idle_1 : decode cX12_idle 1 = .ok (.invokestatic 148, 3) := dq_184 (dst 1 rd_prog_14_method_52_code_0 rfl) rfl
theorem dX12_idle_4 : decode cX12_idle 4 = .ok (.ifCond .eq 11, 3) := dq_153 (dst 4 rd_prog_14_method_52_code_0 rfl) (by decide +kernel)
theorem dX12_idle_7 : decode cX12_idle 7 = .ok (.aload_n 0, 1) := dq_42 (dst 7 rd_prog_14_method_52_code_0 rfl)
theorem dX12_idle_8 : decode cX12_idle 8 = .ok (.iload_n 2, 1) := dq_28 (dst 8 rd_prog_14_method_52_code_0 rfl)
theorem dX12_idle_9 : decode cX12_idle 9 = .ok (.invokevirtual 152, 3) := dq_182 (dst 9 rd_prog_14_method_52_code_0 rfl) rfl
theorem dX12_idle_12 : decode cX12_idle 12 = .ok (.ifCond .ne 7, 3) := dq_154 (dst 12 rd_prog_14_method_52_code_0 rfl) (by decide +kernel)
theorem dX12_idle_15 : decode cX12_idle 15 = .ok (.ldc2_w 221, 3) := dq_20 (dst 15 rd_prog_14_method_52_code_0 rfl) rfl
theorem dX12_idle_18 : decode cX12_idle 18 = .ok (.lreturn, 1) := dq_173 (dst 18 rd_prog_14_method_52_code_0 rfl)
theorem dX12_idle_19 : decode cX12_idle 19 = .ok (.aload_n 0, 1) := dq_42 (dst 19 rd_prog_14_method_52_code_0 rfl)
theorem dX12_idle_20 : decode cX12_idle 20 = .ok (.iload_n 1, 1) := dq_27 (dst 20 rd_prog_14_method_52_code_0 rfl)
theorem dX12_idle_21 : decode cX12_idle 21 = .ok (.iload_n 2, 1) := dq_28 (dst 21 rd_prog_14_method_52_code_0 rfl)
theorem dX12_idle_22 : decode cX12_idle 22 = .ok (.invokevirtual 227, 3) := dq_182 (dst 22 rd_prog_14_method_52_code_0 rfl) rfl
theorem dX12_idle_25 : decode cX12_idle 25 = .ok (.lconst 0, 1) := dq_9 (dst 25 rd_prog_14_method_52_code_0 rfl)
theorem dX12_idle_26 : decode cX12_idle 26 = .ok (.lstore 4, 2) := dq_55 (dst 26 rd_prog_14_method_52_code_0 rfl) rfl
theorem dX12_idle_28 : decode cX12_idle 28 = .ok (.iconst 0, 1) := dq_3 (dst 28 rd_prog_14_method_52_code_0 rfl)
theorem dX12_idle_29 : decode cX12_idle 29 = .ok (.istore 6, 2) := dq_54 (dst 29 rd_prog_14_method_52_code_0 rfl) rfl
theorem dX12_idle_31 : decode cX12_idle 31 = .ok (.iload 6, 2) := dq_21 (dst 31 rd_prog_14_method_52_code_0 rfl) rfl
theorem dX12_idle_33 : decode cX12_idle 33 = .ok (.bipush 50, 2) := dq_16 (dst 1 rd_prog_14_method_52_code_1 rfl) (by decide +kernel)
theorem dX12_idle_35 : decode cX12_idle 35 = .ok (.if_icmp .ge 60, 3) := dq_162 (dst 3 rd_prog_14_method_52_code_1 rfl) (by decide +kernel)
theorem dX12_idle_38 : decode cX12_idle 38 = .ok (.aload_n 0, 1) := dq_42 (dst 6 rd_prog_14_method_52_code_1 rfl)
theorem dX12_idle_39 : decode cX12_idle 39 = .ok (.getfield 32, 3) := dq_180 (dst 7 rd_prog_14_method_52_code_1 rfl) rfl
theorem dX12_idle_42 : decode cX12_idle 42 = .ok (.iload 6, 2) := dq_21 (dst 10 rd_prog_14_method_52_code_1 rfl) rfl
theorem dX12_idle_44 : decode cX12_idle 44 = .ok (.laload, 1) := dq_47 (dst 12 rd_prog_14_method_52_code_1 rfl)
theorem dX12_idle_45 : decode cX12_idle 45 = .ok (.lconst 0, 1) := dq_9 (dst 13 rd_prog_14_method_52_code_1 rfl)
theorem dX12_idle_46 : decode cX12_idle 46 = .ok (.lcmp, 1) := dq_148 (dst 14 rd_prog_14_method_52_code_1 rfl)
theorem dX12_idle_47 : decode cX12_idle 47 = .ok (.ifCond .le 14, 3) := dq_158 (dst 15 rd_prog_14_method_52_code_1 rfl) (by decide +kernel)
theorem dX12_idle_50 : decode cX12_idle 50 = .ok (.aload_n 0, 1) := dq_42 (dst 18 rd_prog_14_method_52_code_1 rfl)
theorem dX12_idle_51 : decode cX12_idle 51 = .ok (.iload_n 1, 1) := dq_27 (dst 19 rd_prog_14_method_52_code_1 rfl)
theorem dX12_idle_52 : decode cX12_idle 52 = .ok (.iload_n 2, 1) := dq_28 (dst 20 rd_prog_14_method_52_code_1 rfl)
theorem dX12_idle_53 : decode cX12_idle 53 = .ok (.iload 6, 2) := dq_21 (dst 21 rd_prog_14_method_52_code_1 rfl) rfl
theorem dX12_idle_55 : decode cX12_idle 55 = .ok (.invokevirtual 231, 3) := dq_182 (dst 23 rd_prog_14_method_52_code_1 rfl) rfl
theorem dX12_idle_58 : decode cX12_idle 58 = .ok (.goto 4, 3) := dq_167 (dst 26 rd_prog_14_method_52_code_1 rfl) (by decide +kernel)
theorem dX12_idle_61 : decode cX12_idle 61 = .ok (.iconst 0, 1) := dq_3 (dst 29 rd_prog_14_method_52_code_1 rfl)
theorem dX12_idle_62 : decode cX12_idle 62 = .ok (.istore 7, 2) := dq_54 (dst 30 rd_prog_14_method_52_code_1 rfl) rfl
theorem dX12_idle_64 : decode cX12_idle 64 = .ok (.lload 4, 2) := dq_22 (dst 0 rd_prog_14_method_52_code_2 rfl) rfl
theorem dX12_idle_66 : decode cX12_idle 66 = .ok (.iload 7, 2) := dq_21 (dst 2 rd_prog_14_method_52_code_2 rfl) rfl
theorem dX12_idle_68 : decode cX12_idle 68 = .ok (.ifCond .le 17, 3) := dq_158 (dst 4 rd_prog_14_method_52_code_2 rfl) (by decide +kernel)
theorem dX12_idle_71 : decode cX12_idle 71 = .ok (.iload 7, 2) := dq_21 (dst 7 rd_prog_14_method_52_code_2 rfl) rfl
theorem dX12_idle_73 : decode cX12_idle 73 = .ok (.i2l, 1) := dq_133 (dst 9 rd_prog_14_method_52_code_2 rfl)
theorem dX12_idle_74 : decode cX12_idle 74 = .ok (.aload_n 0, 1) := dq_42 (dst 10 rd_prog_14_method_52_code_2 rfl)
theorem dX12_idle_75 : decode cX12_idle 75 = .ok (.getfield 32, 3) := dq_180 (dst 11 rd_prog_14_method_52_code_2 rfl) rfl
theorem dX12_idle_78 : decode cX12_idle 78 = .ok (.iload 6, 2) := dq_21 (dst 14 rd_prog_14_method_52_code_2 rfl) rfl
theorem dX12_idle_80 : decode cX12_idle 80 = .ok (.laload, 1) := dq_47 (dst 16 rd_prog_14_method_52_code_2 rfl)
theorem dX12_idle_81 : decode cX12_idle 81 = .ok (.lmul, 1) := dq_105 (dst 17 rd_prog_14_method_52_code_2 rfl)
theorem dX12_idle_82 : decode cX12_idle 82 = .ok (.goto 4, 3) := dq_167 (dst 18 rd_prog_14_method_52_code_2 rfl) (by decide +kernel)
theorem dX12_idle_85 : decode cX12_idle 85 = .ok (.lconst 0, 1) := dq_9 (dst 21 rd_prog_14_method_52_code_2 rfl)
theorem dX12_idle_86 : decode cX12_idle 86 = .ok (.ladd, 1) := dq_97 (dst 22 rd_prog_14_method_52_code_2 rfl)
theorem dX12_idle_87 : decode cX12_idle 87 = .ok (.lstore 4, 2) := dq_55 (dst 23 rd_prog_14_method_52_code_2 rfl) rfl
theorem dX12_idle_89 : decode cX12_idle 89 = .ok (.iinc 6 1, 3) := dq_132 (dst 25 rd_prog_14_method_52_code_2 rfl) rfl (by decide +kernel)
theorem dX12_idle_92 : decode cX12_idle 92 = .ok (.goto (-61), 3) := dq_167 (dst 28 rd_prog_14_method_52_code_2 rfl) (by decide +kernel)
theorem dX12_idle_95 : decode cX12_idle 95 = .ok (.lload 4, 2) := dq_22 (dst 31 rd_prog_14_method_52_code_2 rfl) rfl
theorem dX12_idle_97 : decode cX12_idle 97 = .ok (.iload_n 2, 1) := dq_28 (dst 1 rd_prog_14_method_52_code_3 rfl)
theorem dX12_idle_98 : decode cX12_idle 98 = .ok (.invokestatic 214, 3) := dq_184 (dst 2 rd_prog_14_method_52_code_3 rfl) rfl
theorem dX12_idle_101 : decode cX12_idle 101 = .ok (.iload_n 3, 1) := dq_29 (dst 5 rd_prog_14_method_52_code_3 rfl)
theorem dX12_idle_102 : decode cX12_idle 102 = .ok (.invokestatic 202, 3) := dq_184 (dst 6 rd_prog_14_method_52_code_3 rfl) rfl
theorem dX12_idle_105 : decode cX12_idle 105 = .ok (.lreturn, 1) := dq_173 (dst 9 rd_prog_14_method_52_code_3 rfl)
theorem lf_X12_there_1 : ∀ w ∈ wsX12_there_r1, w ∈ wsX12_there := fun _ h => (List.mem_cons_of_mem _ (List.mem_append_left _ (List.mem_append_left _ h)))
theorem lf_X12_there_2 : ∀ w ∈ wsX12_there_r2, w ∈ wsX12_there := fun _ h => (List.mem_cons_of_mem _ (List.mem_append_left _ (List.mem_append_right _ (List.mem_append_left _ h))))
theorem lf_X12_there_3 : ∀ w ∈ wsX12_there_r3, w ∈ wsX12_there := fun _ h => (List.mem_cons_of_mem _ (List.mem_append_left _ (List.mem_append_right _ (List.mem_append_right _ h))))
theorem lf_X12_there_4 : ∀ w ∈ wsX120, w ∈ wsX12_there := fun _ h => (List.mem_cons_of_mem _ (List.mem_append_right _ h))
set_option maxRecDepth 20000 in
theorem ggX12_there_X12_isRule : GoodIn wsX12_there wsX12_isRule := (gd_cons (lf_X12_there_1 _ (List.mem_of_getElem? (i := 8) rfl)) rfl (gd_cons (lf_X12_there_1 _ (List.mem_of_getElem? (i := 9) rfl)) rfl (gd_cons (lf_X12_there_1 _ (List.mem_of_getElem? (i := 10) rfl)) rfl (gd_cons (lf_X12_there_1 _ (List.mem_of_getElem? (i := 11) rfl)) rfl (gd_cons (lf_X12_there_1 _ (List.mem_of_getElem? (i := 7) rfl)) rfl (gd_cons (lf_X12_there_1 _ (List.mem_of_getElem? (i := 12) rfl)) rfl (gd_nil _)))))))
set_option maxRecDepth 20000 in
theorem gX12_there_X12_isRule : GoodIn wsX12_there (va_wsS RX12 148 yX12_isRule wsX12_isRule) := goodIn_app (gd_cons (lf_X12_there_1 _ (List.mem_of_getElem? (i := 5) rfl)) rfl (gd_cons (lf_X12_there_1 _ (List.mem_of_getElem? (i := 6) rfl)) rfl (gd_cons (lf_X12_there_1 _ (List.mem_of_getElem? (i := 7) rfl)) rfl (gd_nil _)))) ggX12_there_X12_isRule
set_option maxRecDepth 20000 in
theorem ggX12_there_X12_isWeek : GoodIn wsX12_there wsX12_isWeek := (gd_cons (lf_X12_there_1 _ (List.mem_of_getElem? (i := 16) rfl)) rfl (goodIn_app (gd_cons (lf_X12_there_1 _ (List.mem_of_getElem? (i := 0) rfl)) rfl (gd_cons (lf_X12_there_1 _ (List.mem_of_getElem? (i := 10) rfl)) rfl (gd_cons (lf_X12_there_1 _ (List.mem_of_getElem? (i := 11) rfl)) rfl (gd_cons (lf_X12_there_1 _ (List.mem_of_getElem? (i := 7) rfl)) rfl (gd_cons (lf_X12_there_1 _ (List.mem_of_getElem? (i := 12) rfl)) rfl (gd_nil _)))))) (goodIn_sub lf_X12_there_4 ga_wsX120)))
set_option maxRecDepth 20000 in
theorem gX12_there_X12_isWeek : GoodIn wsX12_there (wsV RX12 152 RX12 yX12_isWeek wsX12_isWeek) := goodIn_app (gd_cons (lf_X12_there_1 _ (List.mem_of_getElem? (i := 13) rfl)) rfl (gd_cons (lf_X12_there_1 _ (List.mem_of_getElem? (i := 14) rfl)) rfl (gd_cons (lf_X12_there_1 _ (List.mem_of_getElem? (i := 15) rfl)) rfl (gd_cons (lf_X12_there_1 _ (List.mem_of_getElem? (i := 7) rfl)) rfl (gd_nil _))))) ggX12_there_X12_isWeek
set_option maxRecDepth 20000 in
theorem ggX12_there_X12_in : GoodIn wsX12_there wsX12_in := (gd_cons (lf_X12_there_1 _ (List.mem_of_getElem? (i := 12) rfl)) rfl (gd_nil _))
set_option maxRecDepth 20000 in
theorem gX12_there_X12_in : GoodIn wsX12_there (va_wsS RX12 73 yX12_in wsX12_in) := goodIn_app (gd_cons (lf_X12_there_1 _ (List.mem_of_getElem? (i := 10) rfl)) rfl (gd_cons (lf_X12_there_1 _ (List.mem_of_getElem? (i := 11) rfl)) rfl (gd_cons (lf_X12_there_1 _ (List.mem_of_getElem? (i := 7) rfl)) rfl (gd_nil _)))) ggX12_there_X12_in
set_option maxRecDepth 20000 in
theorem ggX12_there_X12_layLikely : GoodIn wsX12_there wsX12_layLikely := (gd_cons (lf_X12_there_1 _ (List.mem_of_getElem? (i := 20) rfl)) rfl (goodIn_app (goodIn_app (gd_cons (lf_X12_there_1 _ (List.mem_of_getElem? (i := 4) rfl)) rfl (gd_cons (lf_X12_there_1 _ (List.mem_of_getElem? (i := 21) rfl)) rfl (gd_cons (lf_X12_there_1 _ (List.mem_of_getElem? (i := 22) rfl)) rfl (gd_cons (lf_X12_there_1 _ (List.mem_of_getElem? (i := 23) rfl)) rfl (gd_cons (lf_X12_there_2 _ (List.mem_of_getElem? (i := 0) rfl)) rfl (gd_cons (lf_X12_there_1 _ (List.mem_of_getElem? (i := 7) rfl)) rfl (gd_cons (lf_X12_there_2 _ (List.mem_of_getElem? (i := 1) rfl)) rfl (gd_cons (lf_X12_there_2 _ (List.mem_of_getElem? (i := 2) rfl)) rfl (gd_cons (lf_X12_there_1 _ (List.mem_of_getElem? (i := 0) rfl)) rfl (gd_cons (lf_X12_there_2 _ (List.mem_of_getElem? (i := 3) rfl)) rfl (gd_cons (lf_X12_there_2 _ (List.mem_of_getElem? (i := 4) rfl)) rfl (gd_cons (lf_X12_there_2 _ (List.mem_of_getElem? (i := 5) rfl)) rfl (gd_cons (lf_X12_there_2 _ (List.mem_of_getElem? (i := 6) rfl)) rfl (gd_cons (lf_X12_there_2 _ (List.mem_of_getElem? (i := 7) rfl)) rfl (gd_cons (lf_X12_there_2 _ (List.mem_of_getElem? (i := 8) rfl)) rfl (gd_cons (lf_X12_there_2 _ (List.mem_of_getElem? (i := 9) rfl)) rfl (gd_cons (lf_X12_there_2 _ (List.mem_of_getElem? (i := 10) rfl)) rfl (gd_cons (lf_X12_there_2 _ (List.mem_of_getElem? (i := 11) rfl)) rfl (gd_cons (lf_X12_there_2 _ (List.mem_of_getElem? (i := 12) rfl)) rfl (gd_cons (lf_X12_there_2 _ (List.mem_of_getElem? (i := 13) rfl)) rfl (gd_cons (lf_X12_there_2 _ (List.mem_of_getElem? (i := 14) rfl)) rfl (gd_cons (lf_X12_there_2 _ (List.mem_of_getElem? (i := 15) rfl)) rfl (gd_cons (lf_X12_there_2 _ (List.mem_of_getElem? (i := 16) rfl)) rfl (gd_cons (lf_X12_there_2 _ (List.mem_of_getElem? (i := 17) rfl)) rfl (gd_nil _))))))))))))))))))))))))) (gd_cons (lf_X12_there_1 _ (List.mem_of_getElem? (i := 10) rfl)) rfl (gd_cons (lf_X12_there_1 _ (List.mem_of_getElem? (i := 11) rfl)) rfl (gd_cons (lf_X12_there_1 _ (List.mem_of_getElem? (i := 12) rfl)) rfl (gd_cons (lf_X12_there_2 _ (List.mem_of_getElem? (i := 18) rfl)) rfl (gd_cons (lf_X12_there_2 _ (List.mem_of_getElem? (i := 19) rfl)) rfl (gd_cons (lf_X12_there_2 _ (List.mem_of_getElem? (i := 20) rfl)) rfl (gd_cons (lf_X12_there_2 _ (List.mem_of_getElem? (i := 21) rfl)) rfl (gd_cons (lf_X12_there_2 _ (List.mem_of_getElem? (i := 22) rfl)) rfl (gd_cons (lf_X12_there_2 _ (List.mem_of_getElem? (i := 23) rfl)) rfl (gd_cons (lf_X12_there_3 _ (List.mem_of_getElem? (i := 0) rfl)) rfl (gd_cons (lf_X12_there_3 _ (List.mem_of_getElem? (i := 1) rfl)) rfl (gd_cons (lf_X12_there_3 _ (List.mem_of_getElem? (i := 2) rfl)) rfl (gd_cons (lf_X12_there_3 _ (List.mem_of_getElem? (i := 3) rfl)) rfl (gd_cons (lf_X12_there_3 _ (List.mem_of_getElem? (i := 4) rfl)) rfl (gd_cons (lf_X12_there_3 _ (List.mem_of_getElem? (i := 5) rfl)) rfl (gd_cons (lf_X12_there_3 _ (List.mem_of_getElem? (i := 6) rfl)) rfl (gd_cons (lf_X12_there_3 _ (List.mem_of_getElem? (i := 7) rfl)) rfl (gd_cons (lf_X12_there_3 _ (List.mem_of_getElem? (i := 8) rfl)) rfl (gd_cons (lf_X12_there_3 _ (List.mem_of_getElem? (i := 9) rfl)) rfl (gd_cons (lf_X12_there_3 _ (List.mem_of_getElem? (i := 10) rfl)) rfl (gd_cons (lf_X12_there_3 _ (List.mem_of_getElem? (i := 11) rfl)) rfl (gd_nil _))))))))))))))))))))))) (goodIn_sub lf_X12_there_4 ga_wsX120)))
set_option maxRecDepth 20000 in
theorem gX12_there_X12_layLikely : GoodIn wsX12_there (wsV RX12 227 RX12 yX12_layLikely wsX12_layLikely) := goodIn_app (gd_cons (lf_X12_there_1 _ (List.mem_of_getElem? (i := 17) rfl)) rfl (gd_cons (lf_X12_there_1 _ (List.mem_of_getElem? (i := 18) rfl)) rfl (gd_cons (lf_X12_there_1 _ (List.mem_of_getElem? (i := 19) rfl)) rfl (gd_cons (lf_X12_there_1 _ (List.mem_of_getElem? (i := 7) rfl)) rfl (gd_nil _))))) ggX12_there_X12_layLikely
set_option maxRecDepth 20000 in
theorem ggX12_there_X12_all : GoodIn wsX12_there wsX12_all := (gd_cons (lf_X12_there_2 _ (List.mem_of_getElem? (i := 5) rfl)) rfl (gd_nil _))
set_option maxRecDepth 20000 in
theorem gX12_there_X12_all : GoodIn wsX12_there (va_wsS RX12 160 yX12_all wsX12_all) := goodIn_app (gd_cons (lf_X12_there_2 _ (List.mem_of_getElem? (i := 3) rfl)) rfl (gd_cons (lf_X12_there_2 _ (List.mem_of_getElem? (i := 4) rfl)) rfl (gd_cons (lf_X12_there_1 _ (List.mem_of_getElem? (i := 7) rfl)) rfl (gd_nil _)))) ggX12_there_X12_all
set_option maxRecDepth 20000 in
theorem ggX12_there_X12_parts : GoodIn wsX12_there wsX12_parts := (gd_cons (lf_X12_there_3 _ (List.mem_of_getElem? (i := 14) rfl)) rfl (gd_cons (lf_X12_there_3 _ (List.mem_of_getElem? (i := 15) rfl)) rfl (gd_nil _)))
set_option maxRecDepth 20000 in
theorem gX12_there_X12_parts : GoodIn wsX12_there (va_wsS RX12 214 yX12_parts wsX12_parts) := goodIn_app (gd_cons (lf_X12_there_3 _ (List.mem_of_getElem? (i := 12) rfl)) rfl (gd_cons (lf_X12_there_3 _ (List.mem_of_getElem? (i := 13) rfl)) rfl (gd_cons (lf_X12_there_1 _ (List.mem_of_getElem? (i := 7) rfl)) rfl (gd_nil _)))) ggX12_there_X12_parts
set_option maxRecDepth 20000 in
theorem ggX12_there_X12_told : GoodIn wsX12_there wsX12_told := (gd_cons (lf_X12_there_3 _ (List.mem_of_getElem? (i := 18) rfl)) rfl (gd_cons (lf_X12_there_3 _ (List.mem_of_getElem? (i := 19) rfl)) rfl (gd_cons (lf_X12_there_3 _ (List.mem_of_getElem? (i := 20) rfl)) rfl (gd_cons (lf_X12_there_1 _ (List.mem_of_getElem? (i := 7) rfl)) rfl (gd_cons (lf_X12_there_3 _ (List.mem_of_getElem? (i := 21) rfl)) rfl (gd_nil _))))))
set_option maxRecDepth 20000 in
theorem gX12_there_X12_told : GoodIn wsX12_there (va_wsS RX12 202 yX12_told wsX12_told) := goodIn_app (gd_cons (lf_X12_there_3 _ (List.mem_of_getElem? (i := 16) rfl)) rfl (gd_cons (lf_X12_there_3 _ (List.mem_of_getElem? (i := 17) rfl)) rfl (gd_cons (lf_X12_there_1 _ (List.mem_of_getElem? (i := 7) rfl)) rfl (gd_nil _)))) ggX12_there_X12_told
theorem dX12_there_0 : decode cX12_there 0 = .ok (.iload_n 1, 1) := dq_27 (dst 0 rd_prog_14_method_53_code_0 rfl)
theorem dX12_there_1 : decode cX12_there 1 = .ok (.invokestatic 148, 3) := dq_184 (dst 1 rd_prog_14_method_53_code_0 rfl) rfl
theorem dX12_there_4 : decode cX12_there 4 = .ok (.ifCond .eq 21, 3) := dq_153 (dst 4 rd_prog_14_method_53_code_0 rfl) (by decide +kernel)
theorem dX12_there_7 : decode cX12_there 7 = .ok (.aload_n 0, 1) := dq_42 (dst 7 rd_prog_14_method_53_code_0 rfl)
theorem dX12_there_8 : decode cX12_there 8 = .ok (.iload_n 2, 1) := dq_28 (dst 8 rd_prog_14_method_53_code_0 rfl)
theorem dX12_there_9 : decode cX12_there 9 = .ok (.invokevirtual 152, 3) := dq_182 (dst 9 rd_prog_14_method_53_code_0 rfl) rfl
theorem dX12_there_12 : decode cX12_there 12 = .ok (.ifCond .ne 17, 3) := dq_154 (dst 12 rd_prog_14_method_53_code_0 rfl) (by decide +kernel)
theorem dX12_there_15 : decode cX12_there 15 = .ok (.iload_n 2, 1) := dq_28 (dst 15 rd_prog_14_method_53_code_0 rfl)
theorem dX12_there_16 : decode cX12_there 16 = .ok (.aload_n 0, 1) := dq_42 (dst 16 rd_prog_14_method_53_code_0 rfl)
theorem dX12_there_17 : decode cX12_there 17 = .ok (.getfield 13, 3) := dq_180 (dst 17 rd_prog_14_method_53_code_0 rfl) rfl
theorem dX12_there_20 : decode cX12_there 20 = .ok (.iconst 0, 1) := dq_3 (dst 20 rd_prog_14_method_53_code_0 rfl)
theorem dX12_there_21 : decode cX12_there 21 = .ok (.iaload, 1) := dq_46 (dst 21 rd_prog_14_method_53_code_0 rfl)
theorem dX12_there_22 : decode cX12_there 22 = .ok (.if_icmp .eq 7, 3) := dq_159 (dst 22 rd_prog_14_method_53_code_0 rfl) (by decide +kernel)
theorem dX12_there_25 : decode cX12_there 25 = .ok (.ldc2_w 221, 3) := dq_20 (dst 25 rd_prog_14_method_53_code_0 rfl) rfl
theorem dX12_there_28 : decode cX12_there 28 = .ok (.lreturn, 1) := dq_173 (dst 28 rd_prog_14_method_53_code_0 rfl)
theorem dX12_there_29 : decode cX12_there 29 = .ok (.iload_n 3, 1) := dq_29 (dst 29 rd_prog_14_method_53_code_0 rfl)
theorem dX12_there_30 : decode cX12_there 30 = .ok (.i2l, 1) := dq_133 (dst 30 rd_prog_14_method_53_code_0 rfl)
theorem dX12_there_31 : decode cX12_there 31 = .ok (.lconst 0, 1) := dq_9 (dst 31 rd_prog_14_method_53_code_0 rfl)
theorem dX12_there_32 : decode cX12_there 32 = .ok (.ldc2_w 69, 3) := dq_20 (dst 0 rd_prog_14_method_53_code_1 rfl) rfl
theorem dX12_there_35 : decode cX12_there 35 = .ok (.invokestatic 73, 3) := dq_184 (dst 3 rd_prog_14_method_53_code_1 rfl) rfl
theorem dX12_there_38 : decode cX12_there 38 = .ok (.ifCond .ne 7, 3) := dq_154 (dst 6 rd_prog_14_method_53_code_1 rfl) (by decide +kernel)
theorem dX12_there_41 : decode cX12_there 41 = .ok (.ldc2_w 206, 3) := dq_20 (dst 9 rd_prog_14_method_53_code_1 rfl) rfl
theorem dX12_there_44 : decode cX12_there 44 = .ok (.lreturn, 1) := dq_173 (dst 12 rd_prog_14_method_53_code_1 rfl)
theorem dX12_there_45 : decode cX12_there 45 = .ok (.aload_n 0, 1) := dq_42 (dst 13 rd_prog_14_method_53_code_1 rfl)
theorem dX12_there_46 : decode cX12_there 46 = .ok (.iload_n 1, 1) := dq_27 (dst 14 rd_prog_14_method_53_code_1 rfl)
theorem dX12_there_47 : decode cX12_there 47 = .ok (.iload_n 2, 1) := dq_28 (dst 15 rd_prog_14_method_53_code_1 rfl)
theorem dX12_there_48 : decode cX12_there 48 = .ok (.invokevirtual 227, 3) := dq_182 (dst 16 rd_prog_14_method_53_code_1 rfl) rfl
theorem dX12_there_51 : decode cX12_there 51 = .ok (.lconst 0, 1) := dq_9 (dst 19 rd_prog_14_method_53_code_1 rfl)
theorem dX12_there_52 : decode cX12_there 52 = .ok (.lstore 5, 2) := dq_55 (dst 20 rd_prog_14_method_53_code_1 rfl) rfl
theorem dX12_there_54 : decode cX12_there 54 = .ok (.iconst 0, 1) := dq_3 (dst 22 rd_prog_14_method_53_code_1 rfl)
theorem dX12_there_55 : decode cX12_there 55 = .ok (.istore 7, 2) := dq_54 (dst 23 rd_prog_14_method_53_code_1 rfl) rfl
theorem dX12_there_57 : decode cX12_there 57 = .ok (.iload 7, 2) := dq_21 (dst 25 rd_prog_14_method_53_code_1 rfl) rfl
theorem dX12_there_59 : decode cX12_there 59 = .ok (.bipush 50, 2) := dq_16 (dst 27 rd_prog_14_method_53_code_1 rfl) (by decide +kernel)
theorem dX12_there_61 : decode cX12_there 61 = .ok (.if_icmp .ge 34, 3) := dq_162 (dst 29 rd_prog_14_method_53_code_1 rfl) (by decide +kernel)
theorem dX12_there_64 : decode cX12_there 64 = .ok (.lload 5, 2) := dq_22 (dst 0 rd_prog_14_method_53_code_2 rfl) rfl
theorem dX12_there_66 : decode cX12_there 66 = .ok (.iload 7, 2) := dq_21 (dst 2 rd_prog_14_method_53_code_2 rfl) rfl
theorem dX12_there_68 : decode cX12_there 68 = .ok (.invokestatic 160, 3) := dq_184 (dst 4 rd_prog_14_method_53_code_2 rfl) rfl
theorem dX12_there_71 : decode cX12_there 71 = .ok (.iload_n 3, 1) := dq_29 (dst 7 rd_prog_14_method_53_code_2 rfl)
theorem dX12_there_72 : decode cX12_there 72 = .ok (.if_icmp .ne 13, 3) := dq_160 (dst 8 rd_prog_14_method_53_code_2 rfl) (by decide +kernel)
theorem dX12_there_75 : decode cX12_there 75 = .ok (.aload_n 0, 1) := dq_42 (dst 11 rd_prog_14_method_53_code_2 rfl)
theorem dX12_there_76 : decode cX12_there 76 = .ok (.getfield 32, 3) := dq_180 (dst 12 rd_prog_14_method_53_code_2 rfl) rfl
theorem dX12_there_79 : decode cX12_there 79 = .ok (.iload 7, 2) := dq_21 (dst 15 rd_prog_14_method_53_code_2 rfl) rfl
theorem dX12_there_81 : decode cX12_there 81 = .ok (.laload, 1) := dq_47 (dst 17 rd_prog_14_method_53_code_2 rfl)
theorem dX12_there_82 : decode cX12_there 82 = .ok (.goto 4, 3) := dq_167 (dst 18 rd_prog_14_method_53_code_2 rfl) (by decide +kernel)
theorem dX12_there_85 : decode cX12_there 85 = .ok (.lconst 0, 1) := dq_9 (dst 21 rd_prog_14_method_53_code_2 rfl)
theorem dX12_there_86 : decode cX12_there 86 = .ok (.ladd, 1) := dq_97 (dst 22 rd_prog_14_method_53_code_2 rfl)
theorem dX12_there_87 : decode cX12_there 87 = .ok (.lstore 5, 2) := dq_55 (dst 23 rd_prog_14_method_53_code_2 rfl) rfl
theorem dX12_there_89 : decode cX12_there 89 = .ok (.iinc 7 1, 3) := dq_132 (dst 25 rd_prog_14_method_53_code_2 rfl) rfl (by decide +kernel)
theorem dX12_there_92 : decode cX12_there 92 = .ok (.goto (-35), 3) := dq_167 (dst 28 rd_prog_14_method_53_code_2 rfl) (by decide +kernel)
theorem dX12_there_95 : decode cX12_there 95 = .ok (.lload 5, 2) := dq_22 (dst 31 rd_prog_14_method_53_code_2 rfl) rfl
theorem dX12_there_97 : decode cX12_there 97 = .ok (.iload_n 2, 1) := dq_28 (dst 1 rd_prog_14_method_53_code_3 rfl)
theorem dX12_there_98 : decode cX12_there 98 = .ok (.invokestatic 214, 3) := dq_184 (dst 2 rd_prog_14_method_53_code_3 rfl) rfl
theorem dX12_there_101 : decode cX12_there 101 = .ok (.iload 4, 2) := dq_21 (dst 5 rd_prog_14_method_53_code_3 rfl) rfl
theorem dX12_there_103 : decode cX12_there 103 = .ok (.invokestatic 202, 3) := dq_184 (dst 7 rd_prog_14_method_53_code_3 rfl) rfl
theorem dX12_there_106 : decode cX12_there 106 = .ok (.lreturn, 1) := dq_173 (dst 10 rd_prog_14_method_53_code_3 rfl)
theorem lf_X12_cheapest_1 : ∀ w ∈ wsX12_cheapest_r1, w ∈ wsX12_cheapest := fun _ h => (List.mem_cons_of_mem _ (List.mem_append_left _ (List.mem_append_left _ h)))
theorem lf_X12_cheapest_2 : ∀ w ∈ wsX12_cheapest_r2, w ∈ wsX12_cheapest := fun _ h => (List.mem_cons_of_mem _ (List.mem_append_left _ (List.mem_append_right _ (List.mem_append_left _ h))))
theorem lf_X12_cheapest_3 : ∀ w ∈ wsX12_cheapest_r3, w ∈ wsX12_cheapest := fun _ h => (List.mem_cons_of_mem _ (List.mem_append_left _ (List.mem_append_right _ (List.mem_append_right _ h))))
theorem lf_X12_cheapest_4 : ∀ w ∈ wsX120, w ∈ wsX12_cheapest := fun _ h => (List.mem_cons_of_mem _ (List.mem_append_right _ h))
set_option maxRecDepth 20000 in
theorem ggX12_cheapest_X12_layMean : GoodIn wsX12_cheapest wsX12_layMean := (gd_cons (lf_X12_cheapest_1 _ (List.mem_of_getElem? (i := 4) rfl)) rfl (goodIn_app (goodIn_app (gd_cons (lf_X12_cheapest_1 _ (List.mem_of_getElem? (i := 5) rfl)) rfl (gd_cons (lf_X12_cheapest_1 _ (List.mem_of_getElem? (i := 6) rfl)) rfl (gd_cons (lf_X12_cheapest_1 _ (List.mem_of_getElem? (i := 7) rfl)) rfl (gd_cons (lf_X12_cheapest_1 _ (List.mem_of_getElem? (i := 8) rfl)) rfl (gd_cons (lf_X12_cheapest_1 _ (List.mem_of_getElem? (i := 9) rfl)) rfl (gd_cons (lf_X12_cheapest_1 _ (List.mem_of_getElem? (i := 10) rfl)) rfl (gd_cons (lf_X12_cheapest_1 _ (List.mem_of_getElem? (i := 3) rfl)) rfl (gd_cons (lf_X12_cheapest_1 _ (List.mem_of_getElem? (i := 11) rfl)) rfl (gd_cons (lf_X12_cheapest_1 _ (List.mem_of_getElem? (i := 12) rfl)) rfl (gd_cons (lf_X12_cheapest_1 _ (List.mem_of_getElem? (i := 13) rfl)) rfl (gd_cons (lf_X12_cheapest_1 _ (List.mem_of_getElem? (i := 14) rfl)) rfl (gd_cons (lf_X12_cheapest_1 _ (List.mem_of_getElem? (i := 15) rfl)) rfl (gd_cons (lf_X12_cheapest_1 _ (List.mem_of_getElem? (i := 16) rfl)) rfl (gd_cons (lf_X12_cheapest_1 _ (List.mem_of_getElem? (i := 17) rfl)) rfl (gd_cons (lf_X12_cheapest_1 _ (List.mem_of_getElem? (i := 18) rfl)) rfl (gd_cons (lf_X12_cheapest_1 _ (List.mem_of_getElem? (i := 19) rfl)) rfl (gd_cons (lf_X12_cheapest_1 _ (List.mem_of_getElem? (i := 20) rfl)) rfl (gd_cons (lf_X12_cheapest_1 _ (List.mem_of_getElem? (i := 21) rfl)) rfl (gd_cons (lf_X12_cheapest_1 _ (List.mem_of_getElem? (i := 22) rfl)) rfl (gd_cons (lf_X12_cheapest_1 _ (List.mem_of_getElem? (i := 23) rfl)) rfl (gd_cons (lf_X12_cheapest_2 _ (List.mem_of_getElem? (i := 0) rfl)) rfl (gd_cons (lf_X12_cheapest_2 _ (List.mem_of_getElem? (i := 1) rfl)) rfl (gd_cons (lf_X12_cheapest_2 _ (List.mem_of_getElem? (i := 2) rfl)) rfl (gd_cons (lf_X12_cheapest_2 _ (List.mem_of_getElem? (i := 3) rfl)) rfl (gd_nil _))))))))))))))))))))))))) (goodIn_app (gd_cons (lf_X12_cheapest_2 _ (List.mem_of_getElem? (i := 4) rfl)) rfl (gd_cons (lf_X12_cheapest_2 _ (List.mem_of_getElem? (i := 5) rfl)) rfl (gd_cons (lf_X12_cheapest_2 _ (List.mem_of_getElem? (i := 6) rfl)) rfl (gd_cons (lf_X12_cheapest_2 _ (List.mem_of_getElem? (i := 7) rfl)) rfl (gd_cons (lf_X12_cheapest_2 _ (List.mem_of_getElem? (i := 8) rfl)) rfl (gd_cons (lf_X12_cheapest_2 _ (List.mem_of_getElem? (i := 9) rfl)) rfl (gd_cons (lf_X12_cheapest_2 _ (List.mem_of_getElem? (i := 10) rfl)) rfl (gd_cons (lf_X12_cheapest_2 _ (List.mem_of_getElem? (i := 11) rfl)) rfl (gd_cons (lf_X12_cheapest_2 _ (List.mem_of_getElem? (i := 12) rfl)) rfl (gd_cons (lf_X12_cheapest_2 _ (List.mem_of_getElem? (i := 13) rfl)) rfl (gd_cons (lf_X12_cheapest_2 _ (List.mem_of_getElem? (i := 14) rfl)) rfl (gd_cons (lf_X12_cheapest_2 _ (List.mem_of_getElem? (i := 15) rfl)) rfl (gd_cons (lf_X12_cheapest_2 _ (List.mem_of_getElem? (i := 16) rfl)) rfl (gd_cons (lf_X12_cheapest_2 _ (List.mem_of_getElem? (i := 17) rfl)) rfl (gd_cons (lf_X12_cheapest_2 _ (List.mem_of_getElem? (i := 18) rfl)) rfl (gd_cons (lf_X12_cheapest_2 _ (List.mem_of_getElem? (i := 19) rfl)) rfl (gd_cons (lf_X12_cheapest_2 _ (List.mem_of_getElem? (i := 20) rfl)) rfl (gd_cons (lf_X12_cheapest_2 _ (List.mem_of_getElem? (i := 21) rfl)) rfl (gd_cons (lf_X12_cheapest_2 _ (List.mem_of_getElem? (i := 22) rfl)) rfl (gd_cons (lf_X12_cheapest_2 _ (List.mem_of_getElem? (i := 23) rfl)) rfl (gd_cons (lf_X12_cheapest_3 _ (List.mem_of_getElem? (i := 0) rfl)) rfl (gd_cons (lf_X12_cheapest_3 _ (List.mem_of_getElem? (i := 1) rfl)) rfl (gd_cons (lf_X12_cheapest_3 _ (List.mem_of_getElem? (i := 2) rfl)) rfl (gd_cons (lf_X12_cheapest_3 _ (List.mem_of_getElem? (i := 3) rfl)) rfl (gd_nil _))))))))))))))))))))))))) (gd_cons (lf_X12_cheapest_3 _ (List.mem_of_getElem? (i := 4) rfl)) rfl (gd_cons (lf_X12_cheapest_3 _ (List.mem_of_getElem? (i := 5) rfl)) rfl (gd_cons (lf_X12_cheapest_3 _ (List.mem_of_getElem? (i := 6) rfl)) rfl (gd_cons (lf_X12_cheapest_3 _ (List.mem_of_getElem? (i := 7) rfl)) rfl (gd_cons (lf_X12_cheapest_3 _ (List.mem_of_getElem? (i := 8) rfl)) rfl (gd_cons (lf_X12_cheapest_3 _ (List.mem_of_getElem? (i := 9) rfl)) rfl (gd_cons (lf_X12_cheapest_3 _ (List.mem_of_getElem? (i := 10) rfl)) rfl (gd_cons (lf_X12_cheapest_3 _ (List.mem_of_getElem? (i := 11) rfl)) rfl (gd_cons (lf_X12_cheapest_3 _ (List.mem_of_getElem? (i := 12) rfl)) rfl (gd_cons (lf_X12_cheapest_3 _ (List.mem_of_getElem? (i := 13) rfl)) rfl (gd_cons (lf_X12_cheapest_3 _ (List.mem_of_getElem? (i := 14) rfl)) rfl (gd_cons (lf_X12_cheapest_3 _ (List.mem_of_getElem? (i := 15) rfl)) rfl (gd_cons (lf_X12_cheapest_3 _ (List.mem_of_getElem? (i := 16) rfl)) rfl (gd_cons (lf_X12_cheapest_3 _ (List.mem_of_getElem? (i := 17) rfl)) rfl (gd_cons (lf_X12_cheapest_3 _ (List.mem_of_getElem? (i := 18) rfl)) rfl (gd_cons (lf_X12_cheapest_3 _ (List.mem_of_getElem? (i := 19) rfl)) rfl (gd_cons (lf_X12_cheapest_3 _ (List.mem_of_getElem? (i := 20) rfl)) rfl (gd_nil _)))))))))))))))))))) (goodIn_sub lf_X12_cheapest_4 ga_wsX120)))
set_option maxRecDepth 20000 in
theorem gX12_cheapest_X12_layMean : GoodIn wsX12_cheapest (wsV RX12 223 RX12 yX12_layMean wsX12_layMean) := goodIn_app (gd_cons (lf_X12_cheapest_1 _ (List.mem_of_getElem? (i := 0) rfl)) rfl (gd_cons (lf_X12_cheapest_1 _ (List.mem_of_getElem? (i := 1) rfl)) rfl (gd_cons (lf_X12_cheapest_1 _ (List.mem_of_getElem? (i := 2) rfl)) rfl (gd_cons (lf_X12_cheapest_1 _ (List.mem_of_getElem? (i := 3) rfl)) rfl (gd_nil _))))) ggX12_cheapest_X12_layMean
theorem dX12_cheapest_0 : decode cX12_cheapest 0 = .ok (.iconst 0, 1) := dq_3 (dst 0 rd_prog_14_method_54_code_0 rfl)
theorem dX12_cheapest_1 : decode cX12_cheapest 1 = .ok (.istore_n 1, 1) := dq_60 (dst 1 rd_prog_14_method_54_code_0 rfl)
theorem dX12_cheapest_2 : decode cX12_cheapest 2 = .ok (.aload_n 0, 1) := dq_42 (dst 2 rd_prog_14_method_54_code_0 rfl)
theorem dX12_cheapest_3 : decode cX12_cheapest 3 = .ok (.iconst 0, 1) := dq_3 (dst 3 rd_prog_14_method_54_code_0 rfl)
theorem dX12_cheapest_4 : decode cX12_cheapest 4 = .ok (.iconst 0, 1) := dq_3 (dst 4 rd_prog_14_method_54_code_0 rfl)
theorem dX12_cheapest_5 : decode cX12_cheapest 5 = .ok (.iconst 0, 1) := dq_3 (dst 5 rd_prog_14_method_54_code_0 rfl)
theorem dX12_cheapest_6 : decode cX12_cheapest 6 = .ok (.iconst 0, 1) := dq_3 (dst 6 rd_prog_14_method_54_code_0 rfl)
theorem dX12_cheapest_7 : decode cX12_cheapest 7 = .ok (.invokevirtual 223, 3) := dq_182 (dst 7 rd_prog_14_method_54_code_0 rfl) rfl
theorem dX12_cheapest_10 : decode cX12_cheapest 10 = .ok (.lstore_n 2, 1) := dq_65 (dst 10 rd_prog_14_method_54_code_0 rfl)
theorem dX12_cheapest_11 : decode cX12_cheapest 11 = .ok (.iconst 1, 1) := dq_4 (dst 11 rd_prog_14_method_54_code_0 rfl)
theorem dX12_cheapest_12 : decode cX12_cheapest 12 = .ok (.istore 4, 2) := dq_54 (dst 12 rd_prog_14_method_54_code_0 rfl) rfl
theorem dX12_cheapest_14 : decode cX12_cheapest 14 = .ok (.iload 4, 2) := dq_21 (dst 14 rd_prog_14_method_54_code_0 rfl) rfl
theorem dX12_cheapest_16 : decode cX12_cheapest 16 = .ok (.iconst 3, 1) := dq_6 (dst 16 rd_prog_14_method_54_code_0 rfl)
theorem dX12_cheapest_17 : decode cX12_cheapest 17 = .ok (.if_icmp .ge 48, 3) := dq_162 (dst 17 rd_prog_14_method_54_code_0 rfl) (by decide +kernel)
theorem dX12_cheapest_20 : decode cX12_cheapest 20 = .ok (.aload_n 0, 1) := dq_42 (dst 20 rd_prog_14_method_54_code_0 rfl)
theorem dX12_cheapest_21 : decode cX12_cheapest 21 = .ok (.iload 4, 2) := dq_21 (dst 21 rd_prog_14_method_54_code_0 rfl) rfl
theorem dX12_cheapest_23 : decode cX12_cheapest 23 = .ok (.iconst 0, 1) := dq_3 (dst 23 rd_prog_14_method_54_code_0 rfl)
theorem dX12_cheapest_24 : decode cX12_cheapest 24 = .ok (.iconst 0, 1) := dq_3 (dst 24 rd_prog_14_method_54_code_0 rfl)
theorem dX12_cheapest_25 : decode cX12_cheapest 25 = .ok (.iconst 0, 1) := dq_3 (dst 25 rd_prog_14_method_54_code_0 rfl)
theorem dX12_cheapest_26 : decode cX12_cheapest 26 = .ok (.invokevirtual 223, 3) := dq_182 (dst 26 rd_prog_14_method_54_code_0 rfl) rfl
theorem dX12_cheapest_29 : decode cX12_cheapest 29 = .ok (.lstore 5, 2) := dq_55 (dst 29 rd_prog_14_method_54_code_0 rfl) rfl
theorem dX12_cheapest_31 : decode cX12_cheapest 31 = .ok (.lload 5, 2) := dq_22 (dst 31 rd_prog_14_method_54_code_0 rfl) rfl
theorem dX12_cheapest_33 : decode cX12_cheapest 33 = .ok (.lload_n 2, 1) := dq_32 (dst 1 rd_prog_14_method_54_code_1 rfl)
theorem dX12_cheapest_34 : decode cX12_cheapest 34 = .ok (.lcmp, 1) := dq_148 (dst 2 rd_prog_14_method_54_code_1 rfl)
theorem dX12_cheapest_35 : decode cX12_cheapest 35 = .ok (.ifCond .ge 8, 3) := dq_156 (dst 3 rd_prog_14_method_54_code_1 rfl) (by decide +kernel)
theorem dX12_cheapest_38 : decode cX12_cheapest 38 = .ok (.iload 4, 2) := dq_21 (dst 6 rd_prog_14_method_54_code_1 rfl) rfl
theorem dX12_cheapest_40 : decode cX12_cheapest 40 = .ok (.goto 4, 3) := dq_167 (dst 8 rd_prog_14_method_54_code_1 rfl) (by decide +kernel)
theorem dX12_cheapest_43 : decode cX12_cheapest 43 = .ok (.iload_n 1, 1) := dq_27 (dst 11 rd_prog_14_method_54_code_1 rfl)
theorem dX12_cheapest_44 : decode cX12_cheapest 44 = .ok (.istore_n 1, 1) := dq_60 (dst 12 rd_prog_14_method_54_code_1 rfl)
theorem dX12_cheapest_45 : decode cX12_cheapest 45 = .ok (.lload 5, 2) := dq_22 (dst 13 rd_prog_14_method_54_code_1 rfl) rfl
theorem dX12_cheapest_47 : decode cX12_cheapest 47 = .ok (.lload_n 2, 1) := dq_32 (dst 15 rd_prog_14_method_54_code_1 rfl)
theorem dX12_cheapest_48 : decode cX12_cheapest 48 = .ok (.lcmp, 1) := dq_148 (dst 16 rd_prog_14_method_54_code_1 rfl)
theorem dX12_cheapest_49 : decode cX12_cheapest 49 = .ok (.ifCond .ge 8, 3) := dq_156 (dst 17 rd_prog_14_method_54_code_1 rfl) (by decide +kernel)
theorem dX12_cheapest_52 : decode cX12_cheapest 52 = .ok (.lload 5, 2) := dq_22 (dst 20 rd_prog_14_method_54_code_1 rfl) rfl
theorem dX12_cheapest_54 : decode cX12_cheapest 54 = .ok (.goto 4, 3) := dq_167 (dst 22 rd_prog_14_method_54_code_1 rfl) (by decide +kernel)
theorem dX12_cheapest_57 : decode cX12_cheapest 57 = .ok (.lload_n 2, 1) := dq_32 (dst 25 rd_prog_14_method_54_code_1 rfl)
theorem dX12_cheapest_58 : decode cX12_cheapest 58 = .ok (.lstore_n 2, 1) := dq_65 (dst 26 rd_prog_14_method_54_code_1 rfl)
theorem dX12_cheapest_59 : decode cX12_cheapest 59 = .ok (.iinc 4 1, 3) := dq_132 (dst 27 rd_prog_14_method_54_code_1 rfl) rfl (by decide +kernel)
theorem dX12_cheapest_62 : decode cX12_cheapest 62 = .ok (.goto (-48), 3) := dq_167 (dst 30 rd_prog_14_method_54_code_1 rfl) (by decide +kernel)
theorem dX12_cheapest_65 : decode cX12_cheapest 65 = .ok (.iload_n 1, 1) := dq_27 (dst 1 rd_prog_14_method_54_code_2 rfl)
theorem dX12_cheapest_66 : decode cX12_cheapest 66 = .ok (.ireturn, 1) := dq_172 (dst 2 rd_prog_14_method_54_code_2 rfl)
theorem lf_X12_onwardBest_1 : ∀ w ∈ wsX12_onwardBest_r1, w ∈ wsX12_onwardBest := fun _ h => (List.mem_cons_of_mem _ (List.mem_append_left _ (List.mem_append_left _ h)))
theorem lf_X12_onwardBest_2 : ∀ w ∈ wsX12_onwardBest_r2, w ∈ wsX12_onwardBest := fun _ h => (List.mem_cons_of_mem _ (List.mem_append_left _ (List.mem_append_right _ h)))
theorem lf_X12_onwardBest_3 : ∀ w ∈ wsX120, w ∈ wsX12_onwardBest := fun _ h => (List.mem_cons_of_mem _ (List.mem_append_right _ h))
set_option maxRecDepth 20000 in
theorem ggX12_onwardBest_X12_isHands : GoodIn wsX12_onwardBest wsX12_isHands := (gd_cons (lf_X12_onwardBest_1 _ (List.mem_of_getElem? (i := 5) rfl)) rfl (goodIn_app (gd_cons (lf_X12_onwardBest_1 _ (List.mem_of_getElem? (i := 6) rfl)) rfl (gd_cons (lf_X12_onwardBest_1 _ (List.mem_of_getElem? (i := 7) rfl)) rfl (gd_cons (lf_X12_onwardBest_1 _ (List.mem_of_getElem? (i := 8) rfl)) rfl (gd_cons (lf_X12_onwardBest_1 _ (List.mem_of_getElem? (i := 9) rfl)) rfl (gd_cons (lf_X12_onwardBest_1 _ (List.mem_of_getElem? (i := 4) rfl)) rfl (gd_cons (lf_X12_onwardBest_1 _ (List.mem_of_getElem? (i := 10) rfl)) rfl (gd_cons (lf_X12_onwardBest_1 _ (List.mem_of_getElem? (i := 11) rfl)) rfl (gd_cons (lf_X12_onwardBest_1 _ (List.mem_of_getElem? (i := 12) rfl)) rfl (gd_cons (lf_X12_onwardBest_1 _ (List.mem_of_getElem? (i := 13) rfl)) rfl (gd_nil _)))))))))) (goodIn_sub lf_X12_onwardBest_3 ga_wsX120)))
set_option maxRecDepth 20000 in
theorem gX12_onwardBest_X12_isHands : GoodIn wsX12_onwardBest (wsV RX12 171 RX12 yX12_isHands wsX12_isHands) := goodIn_app (gd_cons (lf_X12_onwardBest_1 _ (List.mem_of_getElem? (i := 1) rfl)) rfl (gd_cons (lf_X12_onwardBest_1 _ (List.mem_of_getElem? (i := 2) rfl)) rfl (gd_cons (lf_X12_onwardBest_1 _ (List.mem_of_getElem? (i := 3) rfl)) rfl (gd_cons (lf_X12_onwardBest_1 _ (List.mem_of_getElem? (i := 4) rfl)) rfl (gd_nil _))))) ggX12_onwardBest_X12_isHands
set_option maxRecDepth 20000 in
theorem ggX12_onwardBest_X12_sundayOf : GoodIn wsX12_onwardBest wsX12_sundayOf := (gd_cons (lf_X12_onwardBest_1 _ (List.mem_of_getElem? (i := 17) rfl)) rfl (goodIn_app (gd_cons (lf_X12_onwardBest_1 _ (List.mem_of_getElem? (i := 18) rfl)) rfl (gd_cons (lf_X12_onwardBest_1 _ (List.mem_of_getElem? (i := 19) rfl)) rfl (gd_cons (lf_X12_onwardBest_1 _ (List.mem_of_getElem? (i := 20) rfl)) rfl (gd_cons (lf_X12_onwardBest_1 _ (List.mem_of_getElem? (i := 4) rfl)) rfl (gd_cons (lf_X12_onwardBest_1 _ (List.mem_of_getElem? (i := 21) rfl)) rfl (gd_cons (lf_X12_onwardBest_1 _ (List.mem_of_getElem? (i := 8) rfl)) rfl (gd_cons (lf_X12_onwardBest_1 _ (List.mem_of_getElem? (i := 9) rfl)) rfl (gd_cons (lf_X12_onwardBest_1 _ (List.mem_of_getElem? (i := 10) rfl)) rfl (gd_cons (lf_X12_onwardBest_1 _ (List.mem_of_getElem? (i := 22) rfl)) rfl (gd_cons (lf_X12_onwardBest_1 _ (List.mem_of_getElem? (i := 23) rfl)) rfl (gd_cons (lf_X12_onwardBest_2 _ (List.mem_of_getElem? (i := 0) rfl)) rfl (gd_cons (lf_X12_onwardBest_2 _ (List.mem_of_getElem? (i := 1) rfl)) rfl (gd_cons (lf_X12_onwardBest_2 _ (List.mem_of_getElem? (i := 2) rfl)) rfl (gd_cons (lf_X12_onwardBest_2 _ (List.mem_of_getElem? (i := 3) rfl)) rfl (gd_cons (lf_X12_onwardBest_2 _ (List.mem_of_getElem? (i := 4) rfl)) rfl (gd_cons (lf_X12_onwardBest_1 _ (List.mem_of_getElem? (i := 7) rfl)) rfl (gd_cons (lf_X12_onwardBest_2 _ (List.mem_of_getElem? (i := 5) rfl)) rfl (gd_cons (lf_X12_onwardBest_2 _ (List.mem_of_getElem? (i := 6) rfl)) rfl (gd_cons (lf_X12_onwardBest_2 _ (List.mem_of_getElem? (i := 7) rfl)) rfl (gd_cons (lf_X12_onwardBest_1 _ (List.mem_of_getElem? (i := 11) rfl)) rfl (gd_cons (lf_X12_onwardBest_1 _ (List.mem_of_getElem? (i := 12) rfl)) rfl (gd_cons (lf_X12_onwardBest_1 _ (List.mem_of_getElem? (i := 13) rfl)) rfl (gd_nil _))))))))))))))))))))))) (goodIn_sub lf_X12_onwardBest_3 ga_wsX120)))
set_option maxRecDepth 20000 in
theorem gX12_onwardBest_X12_sundayOf : GoodIn wsX12_onwardBest (wsV RX12 197 RX12 yX12_sundayOf wsX12_sundayOf) := goodIn_app (gd_cons (lf_X12_onwardBest_1 _ (List.mem_of_getElem? (i := 14) rfl)) rfl (gd_cons (lf_X12_onwardBest_1 _ (List.mem_of_getElem? (i := 15) rfl)) rfl (gd_cons (lf_X12_onwardBest_1 _ (List.mem_of_getElem? (i := 16) rfl)) rfl (gd_cons (lf_X12_onwardBest_1 _ (List.mem_of_getElem? (i := 4) rfl)) rfl (gd_nil _))))) ggX12_onwardBest_X12_sundayOf
theorem dX12_onwardBest_0 : decode cX12_onwardBest 0 = .ok (.lconst 0, 1) := dq_9 (dst 0 rd_prog_14_method_55_code_0 rfl)
theorem dX12_onwardBest_1 : decode cX12_onwardBest 1 = .ok (.lstore_n 3, 1) := dq_66 (dst 1 rd_prog_14_method_55_code_0 rfl)
theorem dX12_onwardBest_2 : decode cX12_onwardBest 2 = .ok (.iconst 0, 1) := dq_3 (dst 2 rd_prog_14_method_55_code_0 rfl)
theorem dX12_onwardBest_3 : decode cX12_onwardBest 3 = .ok (.istore 5, 2) := dq_54 (dst 3 rd_prog_14_method_55_code_0 rfl) rfl
theorem dX12_onwardBest_5 : decode cX12_onwardBest 5 = .ok (.iload 5, 2) := dq_21 (dst 5 rd_prog_14_method_55_code_0 rfl) rfl
theorem dX12_onwardBest_7 : decode cX12_onwardBest 7 = .ok (.bipush 50, 2) := dq_16 (dst 7 rd_prog_14_method_55_code_0 rfl) (by decide +kernel)
theorem dX12_onwardBest_9 : decode cX12_onwardBest 9 = .ok (.if_icmp .ge 45, 3) := dq_162 (dst 9 rd_prog_14_method_55_code_0 rfl) (by decide +kernel)
theorem dX12_onwardBest_12 : decode cX12_onwardBest 12 = .ok (.lload_n 3, 1) := dq_33 (dst 12 rd_prog_14_method_55_code_0 rfl)
theorem dX12_onwardBest_13 : decode cX12_onwardBest 13 = .ok (.aload_n 0, 1) := dq_42 (dst 13 rd_prog_14_method_55_code_0 rfl)
theorem dX12_onwardBest_14 : decode cX12_onwardBest 14 = .ok (.iload 5, 2) := dq_21 (dst 14 rd_prog_14_method_55_code_0 rfl) rfl
theorem dX12_onwardBest_16 : decode cX12_onwardBest 16 = .ok (.invokevirtual 171, 3) := dq_182 (dst 16 rd_prog_14_method_55_code_0 rfl) rfl
theorem dX12_onwardBest_19 : decode cX12_onwardBest 19 = .ok (.ifCond .eq 26, 3) := dq_153 (dst 19 rd_prog_14_method_55_code_0 rfl) (by decide +kernel)
theorem dX12_onwardBest_22 : decode cX12_onwardBest 22 = .ok (.aload_n 0, 1) := dq_42 (dst 22 rd_prog_14_method_55_code_0 rfl)
theorem dX12_onwardBest_23 : decode cX12_onwardBest 23 = .ok (.iload_n 1, 1) := dq_27 (dst 23 rd_prog_14_method_55_code_0 rfl)
theorem dX12_onwardBest_24 : decode cX12_onwardBest 24 = .ok (.iload 5, 2) := dq_21 (dst 24 rd_prog_14_method_55_code_0 rfl) rfl
theorem dX12_onwardBest_26 : decode cX12_onwardBest 26 = .ok (.invokevirtual 197, 3) := dq_182 (dst 26 rd_prog_14_method_55_code_0 rfl) rfl
theorem dX12_onwardBest_29 : decode cX12_onwardBest 29 = .ok (.i2l, 1) := dq_133 (dst 29 rd_prog_14_method_55_code_0 rfl)
theorem dX12_onwardBest_30 : decode cX12_onwardBest 30 = .ok (.aload_n 0, 1) := dq_42 (dst 30 rd_prog_14_method_55_code_0 rfl)
theorem dX12_onwardBest_31 : decode cX12_onwardBest 31 = .ok (.getfield 38, 3) := dq_180 (dst 31 rd_prog_14_method_55_code_0 rfl) rfl
theorem dX12_onwardBest_34 : decode cX12_onwardBest 34 = .ok (.iconst 3, 1) := dq_6 (dst 2 rd_prog_14_method_55_code_1 rfl)
theorem dX12_onwardBest_35 : decode cX12_onwardBest 35 = .ok (.iload 5, 2) := dq_21 (dst 3 rd_prog_14_method_55_code_1 rfl) rfl
theorem dX12_onwardBest_37 : decode cX12_onwardBest 37 = .ok (.imul, 1) := dq_104 (dst 5 rd_prog_14_method_55_code_1 rfl)
theorem dX12_onwardBest_38 : decode cX12_onwardBest 38 = .ok (.iload_n 2, 1) := dq_28 (dst 6 rd_prog_14_method_55_code_1 rfl)
theorem dX12_onwardBest_39 : decode cX12_onwardBest 39 = .ok (.iadd, 1) := dq_96 (dst 7 rd_prog_14_method_55_code_1 rfl)
theorem dX12_onwardBest_40 : decode cX12_onwardBest 40 = .ok (.laload, 1) := dq_47 (dst 8 rd_prog_14_method_55_code_1 rfl)
theorem dX12_onwardBest_41 : decode cX12_onwardBest 41 = .ok (.lmul, 1) := dq_105 (dst 9 rd_prog_14_method_55_code_1 rfl)
theorem dX12_onwardBest_42 : decode cX12_onwardBest 42 = .ok (.goto 4, 3) := dq_167 (dst 10 rd_prog_14_method_55_code_1 rfl) (by decide +kernel)
theorem dX12_onwardBest_45 : decode cX12_onwardBest 45 = .ok (.lconst 0, 1) := dq_9 (dst 13 rd_prog_14_method_55_code_1 rfl)
theorem dX12_onwardBest_46 : decode cX12_onwardBest 46 = .ok (.ladd, 1) := dq_97 (dst 14 rd_prog_14_method_55_code_1 rfl)
theorem dX12_onwardBest_47 : decode cX12_onwardBest 47 = .ok (.lstore_n 3, 1) := dq_66 (dst 15 rd_prog_14_method_55_code_1 rfl)
theorem dX12_onwardBest_48 : decode cX12_onwardBest 48 = .ok (.iinc 5 1, 3) := dq_132 (dst 16 rd_prog_14_method_55_code_1 rfl) rfl (by decide +kernel)
theorem dX12_onwardBest_51 : decode cX12_onwardBest 51 = .ok (.goto (-46), 3) := dq_167 (dst 19 rd_prog_14_method_55_code_1 rfl) (by decide +kernel)
theorem dX12_onwardBest_54 : decode cX12_onwardBest 54 = .ok (.lload_n 3, 1) := dq_33 (dst 22 rd_prog_14_method_55_code_1 rfl)
theorem dX12_onwardBest_55 : decode cX12_onwardBest 55 = .ok (.lreturn, 1) := dq_173 (dst 23 rd_prog_14_method_55_code_1 rfl)
theorem lf_X12_layBest_1 : ∀ w ∈ wsX12_layBest_r1, w ∈ wsX12_layBest := fun _ h => (List.mem_cons_of_mem _ (List.mem_append_left _ (List.mem_append_left _ h)))
theorem lf_X12_layBest_2 : ∀ w ∈ wsX12_layBest_r2, w ∈ wsX12_layBest := fun _ h => (List.mem_cons_of_mem _ (List.mem_append_left _ (List.mem_append_right _ (List.mem_append_left _ h))))
theorem lf_X12_layBest_3 : ∀ w ∈ wsX12_layBest_r3, w ∈ wsX12_layBest := fun _ h => (List.mem_cons_of_mem _ (List.mem_append_left _ (List.mem_append_right _ (List.mem_append_right _ h))))
theorem lf_X12_layBest_4 : ∀ w ∈ wsX120, w ∈ wsX12_layBest := fun _ h => (List.mem_cons_of_mem _ (List.mem_append_right _ h))
set_option maxRecDepth 20000 in
theorem ggX12_layBest_X12_isHands : GoodIn wsX12_layBest wsX12_isHands := (gd_cons (lf_X12_layBest_1 _ (List.mem_of_getElem? (i := 7) rfl)) rfl (goodIn_app (gd_cons (lf_X12_layBest_1 _ (List.mem_of_getElem? (i := 8) rfl)) rfl (gd_cons (lf_X12_layBest_1 _ (List.mem_of_getElem? (i := 1) rfl)) rfl (gd_cons (lf_X12_layBest_1 _ (List.mem_of_getElem? (i := 9) rfl)) rfl (gd_cons (lf_X12_layBest_1 _ (List.mem_of_getElem? (i := 10) rfl)) rfl (gd_cons (lf_X12_layBest_1 _ (List.mem_of_getElem? (i := 6) rfl)) rfl (gd_cons (lf_X12_layBest_1 _ (List.mem_of_getElem? (i := 11) rfl)) rfl (gd_cons (lf_X12_layBest_1 _ (List.mem_of_getElem? (i := 12) rfl)) rfl (gd_cons (lf_X12_layBest_1 _ (List.mem_of_getElem? (i := 13) rfl)) rfl (gd_cons (lf_X12_layBest_1 _ (List.mem_of_getElem? (i := 14) rfl)) rfl (gd_nil _)))))))))) (goodIn_sub lf_X12_layBest_4 ga_wsX120)))
set_option maxRecDepth 20000 in
theorem gX12_layBest_X12_isHands : GoodIn wsX12_layBest (wsV RX12 171 RX12 yX12_isHands wsX12_isHands) := goodIn_app (gd_cons (lf_X12_layBest_1 _ (List.mem_of_getElem? (i := 3) rfl)) rfl (gd_cons (lf_X12_layBest_1 _ (List.mem_of_getElem? (i := 4) rfl)) rfl (gd_cons (lf_X12_layBest_1 _ (List.mem_of_getElem? (i := 5) rfl)) rfl (gd_cons (lf_X12_layBest_1 _ (List.mem_of_getElem? (i := 6) rfl)) rfl (gd_nil _))))) ggX12_layBest_X12_isHands
set_option maxRecDepth 20000 in
theorem ggX12_layBest_X12_bonus : GoodIn wsX12_layBest wsX12_bonus := (gd_cons (lf_X12_layBest_1 _ (List.mem_of_getElem? (i := 18) rfl)) rfl (goodIn_app (gd_cons (lf_X12_layBest_1 _ (List.mem_of_getElem? (i := 1) rfl)) rfl (gd_cons (lf_X12_layBest_1 _ (List.mem_of_getElem? (i := 12) rfl)) rfl (gd_cons (lf_X12_layBest_1 _ (List.mem_of_getElem? (i := 13) rfl)) rfl (gd_cons (lf_X12_layBest_1 _ (List.mem_of_getElem? (i := 6) rfl)) rfl (gd_cons (lf_X12_layBest_1 _ (List.mem_of_getElem? (i := 14) rfl)) rfl (gd_nil _)))))) (goodIn_sub lf_X12_layBest_4 ga_wsX120)))
set_option maxRecDepth 20000 in
theorem gX12_layBest_X12_bonus : GoodIn wsX12_layBest (wsV RX12 211 RX12 yX12_bonus wsX12_bonus) := goodIn_app (gd_cons (lf_X12_layBest_1 _ (List.mem_of_getElem? (i := 15) rfl)) rfl (gd_cons (lf_X12_layBest_1 _ (List.mem_of_getElem? (i := 16) rfl)) rfl (gd_cons (lf_X12_layBest_1 _ (List.mem_of_getElem? (i := 17) rfl)) rfl (gd_cons (lf_X12_layBest_1 _ (List.mem_of_getElem? (i := 6) rfl)) rfl (gd_nil _))))) ggX12_layBest_X12_bonus
set_option maxRecDepth 20000 in
theorem ggX12_layBest_X12_parts : GoodIn wsX12_layBest wsX12_parts := (gd_cons (lf_X12_layBest_1 _ (List.mem_of_getElem? (i := 21) rfl)) rfl (gd_cons (lf_X12_layBest_1 _ (List.mem_of_getElem? (i := 22) rfl)) rfl (gd_nil _)))
set_option maxRecDepth 20000 in
theorem gX12_layBest_X12_parts : GoodIn wsX12_layBest (va_wsS RX12 214 yX12_parts wsX12_parts) := goodIn_app (gd_cons (lf_X12_layBest_1 _ (List.mem_of_getElem? (i := 19) rfl)) rfl (gd_cons (lf_X12_layBest_1 _ (List.mem_of_getElem? (i := 20) rfl)) rfl (gd_cons (lf_X12_layBest_1 _ (List.mem_of_getElem? (i := 6) rfl)) rfl (gd_nil _)))) ggX12_layBest_X12_parts
set_option maxRecDepth 20000 in
theorem ggX12_layBest_X12_layBestOf : GoodIn wsX12_layBest wsX12_layBestOf := (gd_cons (lf_X12_layBest_2 _ (List.mem_of_getElem? (i := 2) rfl)) rfl (goodIn_app (goodIn_app (gd_cons (lf_X12_layBest_1 _ (List.mem_of_getElem? (i := 2) rfl)) rfl (gd_cons (lf_X12_layBest_2 _ (List.mem_of_getElem? (i := 3) rfl)) rfl (gd_cons (lf_X12_layBest_2 _ (List.mem_of_getElem? (i := 4) rfl)) rfl (gd_cons (lf_X12_layBest_2 _ (List.mem_of_getElem? (i := 5) rfl)) rfl (gd_cons (lf_X12_layBest_2 _ (List.mem_of_getElem? (i := 6) rfl)) rfl (gd_cons (lf_X12_layBest_2 _ (List.mem_of_getElem? (i := 7) rfl)) rfl (gd_cons (lf_X12_layBest_1 _ (List.mem_of_getElem? (i := 6) rfl)) rfl (gd_cons (lf_X12_layBest_2 _ (List.mem_of_getElem? (i := 8) rfl)) rfl (gd_cons (lf_X12_layBest_1 _ (List.mem_of_getElem? (i := 1) rfl)) rfl (gd_cons (lf_X12_layBest_1 _ (List.mem_of_getElem? (i := 12) rfl)) rfl (gd_cons (lf_X12_layBest_1 _ (List.mem_of_getElem? (i := 13) rfl)) rfl (gd_cons (lf_X12_layBest_1 _ (List.mem_of_getElem? (i := 14) rfl)) rfl (gd_cons (lf_X12_layBest_2 _ (List.mem_of_getElem? (i := 9) rfl)) rfl (gd_cons (lf_X12_layBest_2 _ (List.mem_of_getElem? (i := 10) rfl)) rfl (gd_cons (lf_X12_layBest_2 _ (List.mem_of_getElem? (i := 11) rfl)) rfl (gd_cons (lf_X12_layBest_2 _ (List.mem_of_getElem? (i := 12) rfl)) rfl (gd_cons (lf_X12_layBest_2 _ (List.mem_of_getElem? (i := 13) rfl)) rfl (gd_cons (lf_X12_layBest_2 _ (List.mem_of_getElem? (i := 14) rfl)) rfl (gd_cons (lf_X12_layBest_2 _ (List.mem_of_getElem? (i := 15) rfl)) rfl (gd_cons (lf_X12_layBest_1 _ (List.mem_of_getElem? (i := 0) rfl)) rfl (gd_cons (lf_X12_layBest_1 _ (List.mem_of_getElem? (i := 3) rfl)) rfl (gd_cons (lf_X12_layBest_1 _ (List.mem_of_getElem? (i := 4) rfl)) rfl (gd_cons (lf_X12_layBest_1 _ (List.mem_of_getElem? (i := 5) rfl)) rfl (gd_cons (lf_X12_layBest_1 _ (List.mem_of_getElem? (i := 7) rfl)) rfl (gd_nil _))))))))))))))))))))))))) (goodIn_app (gd_cons (lf_X12_layBest_1 _ (List.mem_of_getElem? (i := 8) rfl)) rfl (gd_cons (lf_X12_layBest_1 _ (List.mem_of_getElem? (i := 9) rfl)) rfl (gd_cons (lf_X12_layBest_1 _ (List.mem_of_getElem? (i := 10) rfl)) rfl (gd_cons (lf_X12_layBest_1 _ (List.mem_of_getElem? (i := 11) rfl)) rfl (gd_cons (lf_X12_layBest_2 _ (List.mem_of_getElem? (i := 16) rfl)) rfl (gd_cons (lf_X12_layBest_2 _ (List.mem_of_getElem? (i := 17) rfl)) rfl (gd_cons (lf_X12_layBest_2 _ (List.mem_of_getElem? (i := 18) rfl)) rfl (gd_cons (lf_X12_layBest_2 _ (List.mem_of_getElem? (i := 19) rfl)) rfl (gd_cons (lf_X12_layBest_2 _ (List.mem_of_getElem? (i := 20) rfl)) rfl (gd_cons (lf_X12_layBest_2 _ (List.mem_of_getElem? (i := 21) rfl)) rfl (gd_cons (lf_X12_layBest_2 _ (List.mem_of_getElem? (i := 22) rfl)) rfl (gd_cons (lf_X12_layBest_2 _ (List.mem_of_getElem? (i := 23) rfl)) rfl (gd_cons (lf_X12_layBest_3 _ (List.mem_of_getElem? (i := 0) rfl)) rfl (gd_cons (lf_X12_layBest_3 _ (List.mem_of_getElem? (i := 1) rfl)) rfl (gd_cons (lf_X12_layBest_3 _ (List.mem_of_getElem? (i := 2) rfl)) rfl (gd_cons (lf_X12_layBest_3 _ (List.mem_of_getElem? (i := 3) rfl)) rfl (gd_cons (lf_X12_layBest_3 _ (List.mem_of_getElem? (i := 4) rfl)) rfl (gd_cons (lf_X12_layBest_3 _ (List.mem_of_getElem? (i := 5) rfl)) rfl (gd_cons (lf_X12_layBest_3 _ (List.mem_of_getElem? (i := 6) rfl)) rfl (gd_cons (lf_X12_layBest_3 _ (List.mem_of_getElem? (i := 7) rfl)) rfl (gd_cons (lf_X12_layBest_3 _ (List.mem_of_getElem? (i := 8) rfl)) rfl (gd_cons (lf_X12_layBest_3 _ (List.mem_of_getElem? (i := 9) rfl)) rfl (gd_cons (lf_X12_layBest_3 _ (List.mem_of_getElem? (i := 10) rfl)) rfl (gd_cons (lf_X12_layBest_3 _ (List.mem_of_getElem? (i := 11) rfl)) rfl (gd_nil _))))))))))))))))))))))))) (gd_cons (lf_X12_layBest_3 _ (List.mem_of_getElem? (i := 12) rfl)) rfl (gd_cons (lf_X12_layBest_3 _ (List.mem_of_getElem? (i := 13) rfl)) rfl (gd_cons (lf_X12_layBest_3 _ (List.mem_of_getElem? (i := 14) rfl)) rfl (gd_cons (lf_X12_layBest_3 _ (List.mem_of_getElem? (i := 15) rfl)) rfl (gd_cons (lf_X12_layBest_3 _ (List.mem_of_getElem? (i := 16) rfl)) rfl (gd_cons (lf_X12_layBest_3 _ (List.mem_of_getElem? (i := 17) rfl)) rfl (gd_nil _))))))))) (goodIn_sub lf_X12_layBest_4 ga_wsX120)))
set_option maxRecDepth 20000 in
theorem gX12_layBest_X12_layBestOf : GoodIn wsX12_layBest (wsV RX12 234 RX12 yX12_layBestOf wsX12_layBestOf) := goodIn_app (gd_cons (lf_X12_layBest_1 _ (List.mem_of_getElem? (i := 23) rfl)) rfl (gd_cons (lf_X12_layBest_2 _ (List.mem_of_getElem? (i := 0) rfl)) rfl (gd_cons (lf_X12_layBest_2 _ (List.mem_of_getElem? (i := 1) rfl)) rfl (gd_cons (lf_X12_layBest_1 _ (List.mem_of_getElem? (i := 6) rfl)) rfl (gd_nil _))))) ggX12_layBest_X12_layBestOf
theorem dX12_layBest_0 : decode cX12_layBest 0 = .ok (.iconst 0, 1) := dq_3 (dst 0 rd_prog_14_method_56_code_0 rfl)
theorem dX12_layBest_1 : decode cX12_layBest 1 = .ok (.istore_n 2, 1) := dq_61 (dst 1 rd_prog_14_method_56_code_0 rfl)
theorem dX12_layBest_2 : decode cX12_layBest 2 = .ok (.iload_n 2, 1) := dq_28 (dst 2 rd_prog_14_method_56_code_0 rfl)
theorem dX12_layBest_3 : decode cX12_layBest 3 = .ok (.sipush 1500, 3) := dq_17 (dst 3 rd_prog_14_method_56_code_0 rfl) (by decide +kernel)
theorem dX12_layBest_6 : decode cX12_layBest 6 = .ok (.if_icmp .ge 37, 3) := dq_162 (dst 6 rd_prog_14_method_56_code_0 rfl) (by decide +kernel)
theorem dX12_layBest_9 : decode cX12_layBest 9 = .ok (.aload_n 0, 1) := dq_42 (dst 9 rd_prog_14_method_56_code_0 rfl)
theorem dX12_layBest_10 : decode cX12_layBest 10 = .ok (.getfield 38, 3) := dq_180 (dst 10 rd_prog_14_method_56_code_0 rfl) rfl
theorem dX12_layBest_13 : decode cX12_layBest 13 = .ok (.iload_n 2, 1) := dq_28 (dst 13 rd_prog_14_method_56_code_0 rfl)
theorem dX12_layBest_14 : decode cX12_layBest 14 = .ok (.aload_n 0, 1) := dq_42 (dst 14 rd_prog_14_method_56_code_0 rfl)
theorem dX12_layBest_15 : decode cX12_layBest 15 = .ok (.iload_n 2, 1) := dq_28 (dst 15 rd_prog_14_method_56_code_0 rfl)
theorem dX12_layBest_16 : decode cX12_layBest 16 = .ok (.iconst 3, 1) := dq_6 (dst 16 rd_prog_14_method_56_code_0 rfl)
theorem dX12_layBest_17 : decode cX12_layBest 17 = .ok (.idiv, 1) := dq_108 (dst 17 rd_prog_14_method_56_code_0 rfl)
theorem dX12_layBest_18 : decode cX12_layBest 18 = .ok (.invokevirtual 171, 3) := dq_182 (dst 18 rd_prog_14_method_56_code_0 rfl) rfl
theorem dX12_layBest_21 : decode cX12_layBest 21 = .ok (.ifCond .eq 14, 3) := dq_153 (dst 21 rd_prog_14_method_56_code_0 rfl) (by decide +kernel)
theorem dX12_layBest_24 : decode cX12_layBest 24 = .ok (.aload_n 0, 1) := dq_42 (dst 24 rd_prog_14_method_56_code_0 rfl)
theorem dX12_layBest_25 : decode cX12_layBest 25 = .ok (.iload_n 2, 1) := dq_28 (dst 25 rd_prog_14_method_56_code_0 rfl)
theorem dX12_layBest_26 : decode cX12_layBest 26 = .ok (.iconst 3, 1) := dq_6 (dst 26 rd_prog_14_method_56_code_0 rfl)
theorem dX12_layBest_27 : decode cX12_layBest 27 = .ok (.idiv, 1) := dq_108 (dst 27 rd_prog_14_method_56_code_0 rfl)
theorem dX12_layBest_28 : decode cX12_layBest 28 = .ok (.invokevirtual 211, 3) := dq_182 (dst 28 rd_prog_14_method_56_code_0 rfl) rfl
theorem dX12_layBest_31 : decode cX12_layBest 31 = .ok (.i2l, 1) := dq_133 (dst 31 rd_prog_14_method_56_code_0 rfl)
theorem dX12_layBest_32 : decode cX12_layBest 32 = .ok (.goto 4, 3) := dq_167 (dst 0 rd_prog_14_method_56_code_1 rfl) (by decide +kernel)
theorem dX12_layBest_35 : decode cX12_layBest 35 = .ok (.lconst 0, 1) := dq_9 (dst 3 rd_prog_14_method_56_code_1 rfl)
theorem dX12_layBest_36 : decode cX12_layBest 36 = .ok (.lastore, 1) := dq_80 (dst 4 rd_prog_14_method_56_code_1 rfl)
theorem dX12_layBest_37 : decode cX12_layBest 37 = .ok (.iinc 2 1, 3) := dq_132 (dst 5 rd_prog_14_method_56_code_1 rfl) rfl (by decide +kernel)
theorem dX12_layBest_40 : decode cX12_layBest 40 = .ok (.goto (-38), 3) := dq_167 (dst 8 rd_prog_14_method_56_code_1 rfl) (by decide +kernel)
theorem dX12_layBest_43 : decode cX12_layBest 43 = .ok (.aload_n 0, 1) := dq_42 (dst 11 rd_prog_14_method_56_code_1 rfl)
theorem dX12_layBest_44 : decode cX12_layBest 44 = .ok (.getfield 13, 3) := dq_180 (dst 12 rd_prog_14_method_56_code_1 rfl) rfl
theorem dX12_layBest_47 : decode cX12_layBest 47 = .ok (.iconst 0, 1) := dq_3 (dst 15 rd_prog_14_method_56_code_1 rfl)
theorem dX12_layBest_48 : decode cX12_layBest 48 = .ok (.iaload, 1) := dq_46 (dst 16 rd_prog_14_method_56_code_1 rfl)
theorem dX12_layBest_49 : decode cX12_layBest 49 = .ok (.iconst 1, 1) := dq_4 (dst 17 rd_prog_14_method_56_code_1 rfl)
theorem dX12_layBest_50 : decode cX12_layBest 50 = .ok (.isub, 1) := dq_100 (dst 18 rd_prog_14_method_56_code_1 rfl)
theorem dX12_layBest_51 : decode cX12_layBest 51 = .ok (.istore_n 2, 1) := dq_61 (dst 19 rd_prog_14_method_56_code_1 rfl)
theorem dX12_layBest_52 : decode cX12_layBest 52 = .ok (.iload_n 2, 1) := dq_28 (dst 20 rd_prog_14_method_56_code_1 rfl)
theorem dX12_layBest_53 : decode cX12_layBest 53 = .ok (.iload_n 1, 1) := dq_27 (dst 21 rd_prog_14_method_56_code_1 rfl)
theorem dX12_layBest_54 : decode cX12_layBest 54 = .ok (.if_icmp .lt 86, 3) := dq_161 (dst 22 rd_prog_14_method_56_code_1 rfl) (by decide +kernel)
theorem dX12_layBest_57 : decode cX12_layBest 57 = .ok (.aload_n 0, 1) := dq_42 (dst 25 rd_prog_14_method_56_code_1 rfl)
theorem dX12_layBest_58 : decode cX12_layBest 58 = .ok (.getfield 13, 3) := dq_180 (dst 26 rd_prog_14_method_56_code_1 rfl) rfl
theorem dX12_layBest_61 : decode cX12_layBest 61 = .ok (.iconst 0, 1) := dq_3 (dst 29 rd_prog_14_method_56_code_1 rfl)
theorem dX12_layBest_62 : decode cX12_layBest 62 = .ok (.iaload, 1) := dq_46 (dst 30 rd_prog_14_method_56_code_1 rfl)
theorem dX12_layBest_63 : decode cX12_layBest 63 = .ok (.iload_n 2, 1) := dq_28 (dst 31 rd_prog_14_method_56_code_1 rfl)
theorem dX12_layBest_64 : decode cX12_layBest 64 = .ok (.isub, 1) := dq_100 (dst 0 rd_prog_14_method_56_code_2 rfl)
theorem dX12_layBest_65 : decode cX12_layBest 65 = .ok (.invokestatic 214, 3) := dq_184 (dst 1 rd_prog_14_method_56_code_2 rfl) rfl
theorem dX12_layBest_68 : decode cX12_layBest 68 = .ok (.lstore_n 3, 1) := dq_66 (dst 4 rd_prog_14_method_56_code_2 rfl)
theorem dX12_layBest_69 : decode cX12_layBest 69 = .ok (.iconst 0, 1) := dq_3 (dst 5 rd_prog_14_method_56_code_2 rfl)
theorem dX12_layBest_70 : decode cX12_layBest 70 = .ok (.istore 5, 2) := dq_54 (dst 6 rd_prog_14_method_56_code_2 rfl) rfl
theorem dX12_layBest_72 : decode cX12_layBest 72 = .ok (.iload 5, 2) := dq_21 (dst 8 rd_prog_14_method_56_code_2 rfl) rfl
theorem dX12_layBest_74 : decode cX12_layBest 74 = .ok (.sipush 500, 3) := dq_17 (dst 10 rd_prog_14_method_56_code_2 rfl) (by decide +kernel)
theorem dX12_layBest_77 : decode cX12_layBest 77 = .ok (.if_icmp .ge 26, 3) := dq_162 (dst 13 rd_prog_14_method_56_code_2 rfl) (by decide +kernel)
theorem dX12_layBest_80 : decode cX12_layBest 80 = .ok (.aload_n 0, 1) := dq_42 (dst 16 rd_prog_14_method_56_code_2 rfl)
theorem dX12_layBest_81 : decode cX12_layBest 81 = .ok (.iload 5, 2) := dq_21 (dst 17 rd_prog_14_method_56_code_2 rfl) rfl
theorem dX12_layBest_83 : decode cX12_layBest 83 = .ok (.invokevirtual 171, 3) := dq_182 (dst 19 rd_prog_14_method_56_code_2 rfl) rfl
theorem dX12_layBest_86 : decode cX12_layBest 86 = .ok (.ifCond .eq 11, 3) := dq_153 (dst 22 rd_prog_14_method_56_code_2 rfl) (by decide +kernel)
theorem dX12_layBest_89 : decode cX12_layBest 89 = .ok (.aload_n 0, 1) := dq_42 (dst 25 rd_prog_14_method_56_code_2 rfl)
theorem dX12_layBest_90 : decode cX12_layBest 90 = .ok (.iload_n 2, 1) := dq_28 (dst 26 rd_prog_14_method_56_code_2 rfl)
theorem dX12_layBest_91 : decode cX12_layBest 91 = .ok (.iload 5, 2) := dq_21 (dst 27 rd_prog_14_method_56_code_2 rfl) rfl
theorem dX12_layBest_93 : decode cX12_layBest 93 = .ok (.lload_n 3, 1) := dq_33 (dst 29 rd_prog_14_method_56_code_2 rfl)
theorem dX12_layBest_94 : decode cX12_layBest 94 = .ok (.invokevirtual 234, 3) := dq_182 (dst 30 rd_prog_14_method_56_code_2 rfl) rfl
theorem dX12_layBest_97 : decode cX12_layBest 97 = .ok (.iinc 5 1, 3) := dq_132 (dst 1 rd_prog_14_method_56_code_3 rfl) rfl (by decide +kernel)
theorem dX12_layBest_100 : decode cX12_layBest 100 = .ok (.goto (-28), 3) := dq_167 (dst 4 rd_prog_14_method_56_code_3 rfl) (by decide +kernel)
theorem dX12_layBest_103 : decode cX12_layBest 103 = .ok (.iconst 0, 1) := dq_3 (dst 7 rd_prog_14_method_56_code_3 rfl)
theorem dX12_layBest_104 : decode cX12_layBest 104 = .ok (.istore 5, 2) := dq_54 (dst 8 rd_prog_14_method_56_code_3 rfl) rfl
theorem dX12_layBest_106 : decode cX12_layBest 106 = .ok (.iload 5, 2) := dq_21 (dst 10 rd_prog_14_method_56_code_3 rfl) rfl
theorem dX12_layBest_108 : decode cX12_layBest 108 = .ok (.sipush 1500, 3) := dq_17 (dst 12 rd_prog_14_method_56_code_3 rfl) (by decide +kernel)
theorem dX12_layBest_111 : decode cX12_layBest 111 = .ok (.if_icmp .ge 23, 3) := dq_162 (dst 15 rd_prog_14_method_56_code_3 rfl) (by decide +kernel)
theorem dX12_layBest_114 : decode cX12_layBest 114 = .ok (.aload_n 0, 1) := dq_42 (dst 18 rd_prog_14_method_56_code_3 rfl)
theorem dX12_layBest_115 : decode cX12_layBest 115 = .ok (.getfield 38, 3) := dq_180 (dst 19 rd_prog_14_method_56_code_3 rfl) rfl
theorem dX12_layBest_118 : decode cX12_layBest 118 = .ok (.iload 5, 2) := dq_21 (dst 22 rd_prog_14_method_56_code_3 rfl) rfl
theorem dX12_layBest_120 : decode cX12_layBest 120 = .ok (.aload_n 0, 1) := dq_42 (dst 24 rd_prog_14_method_56_code_3 rfl)
theorem dX12_layBest_121 : decode cX12_layBest 121 = .ok (.getfield 41, 3) := dq_180 (dst 25 rd_prog_14_method_56_code_3 rfl) rfl
theorem dX12_layBest_124 : decode cX12_layBest 124 = .ok (.iload 5, 2) := dq_21 (dst 28 rd_prog_14_method_56_code_3 rfl) rfl
theorem dX12_layBest_126 : decode cX12_layBest 126 = .ok (.laload, 1) := dq_47 (dst 30 rd_prog_14_method_56_code_3 rfl)
theorem dX12_layBest_127 : decode cX12_layBest 127 = .ok (.lastore, 1) := dq_80 (dst 31 rd_prog_14_method_56_code_3 rfl)
theorem dX12_layBest_128 : decode cX12_layBest 128 = .ok (.iinc 5 1, 3) := dq_132 (dst 0 rd_prog_14_method_56_code_4 rfl) rfl (by decide +kernel)
theorem dX12_layBest_131 : decode cX12_layBest 131 = .ok (.goto (-25), 3) := dq_167 (dst 3 rd_prog_14_method_56_code_4 rfl) (by decide +kernel)
theorem dX12_layBest_134 : decode cX12_layBest 134 = .ok (.iinc 2 (-1), 3) := dq_132 (dst 6 rd_prog_14_method_56_code_4 rfl) rfl (by decide +kernel)
theorem dX12_layBest_137 : decode cX12_layBest 137 = .ok (.goto (-85), 3) := dq_167 (dst 9 rd_prog_14_method_56_code_4 rfl) (by decide +kernel)
theorem dX12_layBest_140 : decode cX12_layBest 140 = .ok (.return_, 1) := dq_177 (dst 12 rd_prog_14_method_56_code_4 rfl)
theorem lf_X12_layBestOf_1 : ∀ w ∈ wsX12_layBestOf_r1, w ∈ wsX12_layBestOf := fun _ h => (List.mem_cons_of_mem _ (List.mem_append_left _ (List.mem_append_left _ h)))
theorem lf_X12_layBestOf_2 : ∀ w ∈ wsX12_layBestOf_r2, w ∈ wsX12_layBestOf := fun _ h => (List.mem_cons_of_mem _ (List.mem_append_left _ (List.mem_append_right _ (List.mem_append_left _ h))))
theorem lf_X12_layBestOf_3 : ∀ w ∈ wsX12_layBestOf_r3, w ∈ wsX12_layBestOf := fun _ h => (List.mem_cons_of_mem _ (List.mem_append_left _ (List.mem_append_right _ (List.mem_append_right _ h))))
theorem lf_X12_layBestOf_4 : ∀ w ∈ wsX120, w ∈ wsX12_layBestOf := fun _ h => (List.mem_cons_of_mem _ (List.mem_append_right _ h))
set_option maxRecDepth 20000 in
theorem ggX12_layBestOf_X12_after : GoodIn wsX12_layBestOf wsX12_after := (gd_cons (lf_X12_layBestOf_1 _ (List.mem_of_getElem? (i := 7) rfl)) rfl (goodIn_app (gd_cons (lf_X12_layBestOf_1 _ (List.mem_of_getElem? (i := 8) rfl)) rfl (gd_cons (lf_X12_layBestOf_1 _ (List.mem_of_getElem? (i := 9) rfl)) rfl (gd_cons (lf_X12_layBestOf_1 _ (List.mem_of_getElem? (i := 10) rfl)) rfl (gd_cons (lf_X12_layBestOf_1 _ (List.mem_of_getElem? (i := 6) rfl)) rfl (gd_cons (lf_X12_layBestOf_1 _ (List.mem_of_getElem? (i := 11) rfl)) rfl (gd_cons (lf_X12_layBestOf_1 _ (List.mem_of_getElem? (i := 12) rfl)) rfl (gd_cons (lf_X12_layBestOf_1 _ (List.mem_of_getElem? (i := 13) rfl)) rfl (gd_cons (lf_X12_layBestOf_1 _ (List.mem_of_getElem? (i := 14) rfl)) rfl (gd_nil _))))))))) (goodIn_sub lf_X12_layBestOf_4 ga_wsX120)))
set_option maxRecDepth 20000 in
theorem gX12_layBestOf_X12_after : GoodIn wsX12_layBestOf (wsV RX12 174 RX12 yX12_after wsX12_after) := goodIn_app (gd_cons (lf_X12_layBestOf_1 _ (List.mem_of_getElem? (i := 3) rfl)) rfl (gd_cons (lf_X12_layBestOf_1 _ (List.mem_of_getElem? (i := 4) rfl)) rfl (gd_cons (lf_X12_layBestOf_1 _ (List.mem_of_getElem? (i := 5) rfl)) rfl (gd_cons (lf_X12_layBestOf_1 _ (List.mem_of_getElem? (i := 6) rfl)) rfl (gd_nil _))))) ggX12_layBestOf_X12_after
set_option maxRecDepth 20000 in
theorem ggX12_layBestOf_X12_onwardBest : GoodIn wsX12_layBestOf wsX12_onwardBest := (gd_cons (lf_X12_layBestOf_1 _ (List.mem_of_getElem? (i := 18) rfl)) rfl (goodIn_app (goodIn_app (gd_cons (lf_X12_layBestOf_1 _ (List.mem_of_getElem? (i := 19) rfl)) rfl (gd_cons (lf_X12_layBestOf_1 _ (List.mem_of_getElem? (i := 20) rfl)) rfl (gd_cons (lf_X12_layBestOf_1 _ (List.mem_of_getElem? (i := 21) rfl)) rfl (gd_cons (lf_X12_layBestOf_1 _ (List.mem_of_getElem? (i := 22) rfl)) rfl (gd_cons (lf_X12_layBestOf_1 _ (List.mem_of_getElem? (i := 6) rfl)) rfl (gd_cons (lf_X12_layBestOf_1 _ (List.mem_of_getElem? (i := 23) rfl)) rfl (gd_cons (lf_X12_layBestOf_2 _ (List.mem_of_getElem? (i := 0) rfl)) rfl (gd_cons (lf_X12_layBestOf_1 _ (List.mem_of_getElem? (i := 8) rfl)) rfl (gd_cons (lf_X12_layBestOf_2 _ (List.mem_of_getElem? (i := 1) rfl)) rfl (gd_cons (lf_X12_layBestOf_2 _ (List.mem_of_getElem? (i := 2) rfl)) rfl (gd_cons (lf_X12_layBestOf_2 _ (List.mem_of_getElem? (i := 3) rfl)) rfl (gd_cons (lf_X12_layBestOf_1 _ (List.mem_of_getElem? (i := 9) rfl)) rfl (gd_cons (lf_X12_layBestOf_1 _ (List.mem_of_getElem? (i := 10) rfl)) rfl (gd_cons (lf_X12_layBestOf_1 _ (List.mem_of_getElem? (i := 11) rfl)) rfl (gd_cons (lf_X12_layBestOf_2 _ (List.mem_of_getElem? (i := 4) rfl)) rfl (gd_cons (lf_X12_layBestOf_2 _ (List.mem_of_getElem? (i := 5) rfl)) rfl (gd_cons (lf_X12_layBestOf_2 _ (List.mem_of_getElem? (i := 6) rfl)) rfl (gd_cons (lf_X12_layBestOf_2 _ (List.mem_of_getElem? (i := 7) rfl)) rfl (gd_cons (lf_X12_layBestOf_2 _ (List.mem_of_getElem? (i := 8) rfl)) rfl (gd_cons (lf_X12_layBestOf_2 _ (List.mem_of_getElem? (i := 9) rfl)) rfl (gd_cons (lf_X12_layBestOf_2 _ (List.mem_of_getElem? (i := 10) rfl)) rfl (gd_cons (lf_X12_layBestOf_2 _ (List.mem_of_getElem? (i := 11) rfl)) rfl (gd_cons (lf_X12_layBestOf_2 _ (List.mem_of_getElem? (i := 12) rfl)) rfl (gd_cons (lf_X12_layBestOf_2 _ (List.mem_of_getElem? (i := 13) rfl)) rfl (gd_nil _))))))))))))))))))))))))) (gd_cons (lf_X12_layBestOf_2 _ (List.mem_of_getElem? (i := 14) rfl)) rfl (gd_cons (lf_X12_layBestOf_2 _ (List.mem_of_getElem? (i := 15) rfl)) rfl (gd_cons (lf_X12_layBestOf_2 _ (List.mem_of_getElem? (i := 16) rfl)) rfl (gd_cons (lf_X12_layBestOf_2 _ (List.mem_of_getElem? (i := 17) rfl)) rfl (gd_cons (lf_X12_layBestOf_2 _ (List.mem_of_getElem? (i := 18) rfl)) rfl (gd_cons (lf_X12_layBestOf_2 _ (List.mem_of_getElem? (i := 19) rfl)) rfl (gd_cons (lf_X12_layBestOf_2 _ (List.mem_of_getElem? (i := 20) rfl)) rfl (gd_cons (lf_X12_layBestOf_2 _ (List.mem_of_getElem? (i := 21) rfl)) rfl (gd_nil _)))))))))) (goodIn_sub lf_X12_layBestOf_4 ga_wsX120)))
set_option maxRecDepth 20000 in
theorem gX12_layBestOf_X12_onwardBest : GoodIn wsX12_layBestOf (wsV RX12 238 RX12 yX12_onwardBest wsX12_onwardBest) := goodIn_app (gd_cons (lf_X12_layBestOf_1 _ (List.mem_of_getElem? (i := 15) rfl)) rfl (gd_cons (lf_X12_layBestOf_1 _ (List.mem_of_getElem? (i := 16) rfl)) rfl (gd_cons (lf_X12_layBestOf_1 _ (List.mem_of_getElem? (i := 17) rfl)) rfl (gd_cons (lf_X12_layBestOf_1 _ (List.mem_of_getElem? (i := 6) rfl)) rfl (gd_nil _))))) ggX12_layBestOf_X12_onwardBest
set_option maxRecDepth 20000 in
theorem ggX12_layBestOf_X12_costOf : GoodIn wsX12_layBestOf wsX12_costOf := (gd_cons (lf_X12_layBestOf_3 _ (List.mem_of_getElem? (i := 1) rfl)) rfl (goodIn_app (gd_cons (lf_X12_layBestOf_1 _ (List.mem_of_getElem? (i := 8) rfl)) rfl (gd_cons (lf_X12_layBestOf_3 _ (List.mem_of_getElem? (i := 2) rfl)) rfl (gd_cons (lf_X12_layBestOf_3 _ (List.mem_of_getElem? (i := 3) rfl)) rfl (gd_cons (lf_X12_layBestOf_3 _ (List.mem_of_getElem? (i := 4) rfl)) rfl (gd_cons (lf_X12_layBestOf_1 _ (List.mem_of_getElem? (i := 6) rfl)) rfl (gd_cons (lf_X12_layBestOf_3 _ (List.mem_of_getElem? (i := 5) rfl)) rfl (gd_cons (lf_X12_layBestOf_1 _ (List.mem_of_getElem? (i := 9) rfl)) rfl (gd_cons (lf_X12_layBestOf_1 _ (List.mem_of_getElem? (i := 10) rfl)) rfl (gd_cons (lf_X12_layBestOf_1 _ (List.mem_of_getElem? (i := 11) rfl)) rfl (gd_nil _)))))))))) (goodIn_sub lf_X12_layBestOf_4 ga_wsX120)))
set_option maxRecDepth 20000 in
theorem gX12_layBestOf_X12_costOf : GoodIn wsX12_layBestOf (wsV RX12 181 RX12 yX12_costOf wsX12_costOf) := goodIn_app (gd_cons (lf_X12_layBestOf_2 _ (List.mem_of_getElem? (i := 22) rfl)) rfl (gd_cons (lf_X12_layBestOf_2 _ (List.mem_of_getElem? (i := 23) rfl)) rfl (gd_cons (lf_X12_layBestOf_3 _ (List.mem_of_getElem? (i := 0) rfl)) rfl (gd_cons (lf_X12_layBestOf_1 _ (List.mem_of_getElem? (i := 6) rfl)) rfl (gd_nil _))))) ggX12_layBestOf_X12_costOf
theorem dX12_layBestOf_0 : decode cX12_layBestOf 0 = .ok (.iconst 0, 1) := dq_3 (dst 0 rd_prog_14_method_57_code_0 rfl)
theorem dX12_layBestOf_1 : decode cX12_layBestOf 1 = .ok (.istore 5, 2) := dq_54 (dst 1 rd_prog_14_method_57_code_0 rfl) rfl
theorem dX12_layBestOf_3 : decode cX12_layBestOf 3 = .ok (.iload 5, 2) := dq_21 (dst 3 rd_prog_14_method_57_code_0 rfl) rfl
theorem dX12_layBestOf_5 : decode cX12_layBestOf 5 = .ok (.iconst 3, 1) := dq_6 (dst 5 rd_prog_14_method_57_code_0 rfl)
theorem dX12_layBestOf_6 : decode cX12_layBestOf 6 = .ok (.if_icmp .ge 23, 3) := dq_162 (dst 6 rd_prog_14_method_57_code_0 rfl) (by decide +kernel)
theorem dX12_layBestOf_9 : decode cX12_layBestOf 9 = .ok (.aload_n 0, 1) := dq_42 (dst 9 rd_prog_14_method_57_code_0 rfl)
theorem dX12_layBestOf_10 : decode cX12_layBestOf 10 = .ok (.getfield 41, 3) := dq_180 (dst 10 rd_prog_14_method_57_code_0 rfl) rfl
theorem dX12_layBestOf_13 : decode cX12_layBestOf 13 = .ok (.iconst 3, 1) := dq_6 (dst 13 rd_prog_14_method_57_code_0 rfl)
theorem dX12_layBestOf_14 : decode cX12_layBestOf 14 = .ok (.iload_n 2, 1) := dq_28 (dst 14 rd_prog_14_method_57_code_0 rfl)
theorem dX12_layBestOf_15 : decode cX12_layBestOf 15 = .ok (.imul, 1) := dq_104 (dst 15 rd_prog_14_method_57_code_0 rfl)
theorem dX12_layBestOf_16 : decode cX12_layBestOf 16 = .ok (.iload 5, 2) := dq_21 (dst 16 rd_prog_14_method_57_code_0 rfl) rfl
theorem dX12_layBestOf_18 : decode cX12_layBestOf 18 = .ok (.iadd, 1) := dq_96 (dst 18 rd_prog_14_method_57_code_0 rfl)
theorem dX12_layBestOf_19 : decode cX12_layBestOf 19 = .ok (.ldc2_w 221, 3) := dq_20 (dst 19 rd_prog_14_method_57_code_0 rfl) rfl
theorem dX12_layBestOf_22 : decode cX12_layBestOf 22 = .ok (.lastore, 1) := dq_80 (dst 22 rd_prog_14_method_57_code_0 rfl)
theorem dX12_layBestOf_23 : decode cX12_layBestOf 23 = .ok (.iinc 5 1, 3) := dq_132 (dst 23 rd_prog_14_method_57_code_0 rfl) rfl (by decide +kernel)
theorem dX12_layBestOf_26 : decode cX12_layBestOf 26 = .ok (.goto (-23), 3) := dq_167 (dst 26 rd_prog_14_method_57_code_0 rfl) (by decide +kernel)
theorem dX12_layBestOf_29 : decode cX12_layBestOf 29 = .ok (.iconst 0, 1) := dq_3 (dst 29 rd_prog_14_method_57_code_0 rfl)
theorem dX12_layBestOf_30 : decode cX12_layBestOf 30 = .ok (.istore 5, 2) := dq_54 (dst 30 rd_prog_14_method_57_code_0 rfl) rfl
theorem dX12_layBestOf_32 : decode cX12_layBestOf 32 = .ok (.iload 5, 2) := dq_21 (dst 0 rd_prog_14_method_57_code_1 rfl) rfl
theorem dX12_layBestOf_34 : decode cX12_layBestOf 34 = .ok (.sipush 150, 3) := dq_17 (dst 2 rd_prog_14_method_57_code_1 rfl) (by decide +kernel)
theorem dX12_layBestOf_37 : decode cX12_layBestOf 37 = .ok (.if_icmp .ge 169, 3) := dq_162 (dst 5 rd_prog_14_method_57_code_1 rfl) (by decide +kernel)
theorem dX12_layBestOf_40 : decode cX12_layBestOf 40 = .ok (.sipush 1000, 3) := dq_17 (dst 8 rd_prog_14_method_57_code_1 rfl) (by decide +kernel)
theorem dX12_layBestOf_43 : decode cX12_layBestOf 43 = .ok (.iload 5, 2) := dq_21 (dst 11 rd_prog_14_method_57_code_1 rfl) rfl
theorem dX12_layBestOf_45 : decode cX12_layBestOf 45 = .ok (.bipush 30, 2) := dq_16 (dst 13 rd_prog_14_method_57_code_1 rfl) (by decide +kernel)
theorem dX12_layBestOf_47 : decode cX12_layBestOf 47 = .ok (.idiv, 1) := dq_108 (dst 15 rd_prog_14_method_57_code_1 rfl)
theorem dX12_layBestOf_48 : decode cX12_layBestOf 48 = .ok (.imul, 1) := dq_104 (dst 16 rd_prog_14_method_57_code_1 rfl)
theorem dX12_layBestOf_49 : decode cX12_layBestOf 49 = .ok (.bipush 100, 2) := dq_16 (dst 17 rd_prog_14_method_57_code_1 rfl) (by decide +kernel)
theorem dX12_layBestOf_51 : decode cX12_layBestOf 51 = .ok (.iload 5, 2) := dq_21 (dst 19 rd_prog_14_method_57_code_1 rfl) rfl
theorem dX12_layBestOf_53 : decode cX12_layBestOf 53 = .ok (.bipush 6, 2) := dq_16 (dst 21 rd_prog_14_method_57_code_1 rfl) (by decide +kernel)
theorem dX12_layBestOf_55 : decode cX12_layBestOf 55 = .ok (.idiv, 1) := dq_108 (dst 23 rd_prog_14_method_57_code_1 rfl)
theorem dX12_layBestOf_56 : decode cX12_layBestOf 56 = .ok (.iconst 5, 1) := dq_8 (dst 24 rd_prog_14_method_57_code_1 rfl)
theorem dX12_layBestOf_57 : decode cX12_layBestOf 57 = .ok (.irem, 1) := dq_112 (dst 25 rd_prog_14_method_57_code_1 rfl)
theorem dX12_layBestOf_58 : decode cX12_layBestOf 58 = .ok (.imul, 1) := dq_104 (dst 26 rd_prog_14_method_57_code_1 rfl)
theorem dX12_layBestOf_59 : decode cX12_layBestOf 59 = .ok (.iadd, 1) := dq_96 (dst 27 rd_prog_14_method_57_code_1 rfl)
theorem dX12_layBestOf_60 : decode cX12_layBestOf 60 = .ok (.bipush 10, 2) := dq_16 (dst 28 rd_prog_14_method_57_code_1 rfl) (by decide +kernel)
theorem dX12_layBestOf_62 : decode cX12_layBestOf 62 = .ok (.iload 5, 2) := dq_21 (dst 30 rd_prog_14_method_57_code_1 rfl) rfl
theorem dX12_layBestOf_64 : decode cX12_layBestOf 64 = .ok (.iconst 3, 1) := dq_6 (dst 0 rd_prog_14_method_57_code_2 rfl)
theorem dX12_layBestOf_65 : decode cX12_layBestOf 65 = .ok (.idiv, 1) := dq_108 (dst 1 rd_prog_14_method_57_code_2 rfl)
theorem dX12_layBestOf_66 : decode cX12_layBestOf 66 = .ok (.iconst 2, 1) := dq_5 (dst 2 rd_prog_14_method_57_code_2 rfl)
theorem dX12_layBestOf_67 : decode cX12_layBestOf 67 = .ok (.irem, 1) := dq_112 (dst 3 rd_prog_14_method_57_code_2 rfl)
theorem dX12_layBestOf_68 : decode cX12_layBestOf 68 = .ok (.imul, 1) := dq_104 (dst 4 rd_prog_14_method_57_code_2 rfl)
theorem dX12_layBestOf_69 : decode cX12_layBestOf 69 = .ok (.iadd, 1) := dq_96 (dst 5 rd_prog_14_method_57_code_2 rfl)
theorem dX12_layBestOf_70 : decode cX12_layBestOf 70 = .ok (.iload 5, 2) := dq_21 (dst 6 rd_prog_14_method_57_code_2 rfl) rfl
theorem dX12_layBestOf_72 : decode cX12_layBestOf 72 = .ok (.iconst 3, 1) := dq_6 (dst 8 rd_prog_14_method_57_code_2 rfl)
theorem dX12_layBestOf_73 : decode cX12_layBestOf 73 = .ok (.irem, 1) := dq_112 (dst 9 rd_prog_14_method_57_code_2 rfl)
theorem dX12_layBestOf_74 : decode cX12_layBestOf 74 = .ok (.iadd, 1) := dq_96 (dst 10 rd_prog_14_method_57_code_2 rfl)
theorem dX12_layBestOf_75 : decode cX12_layBestOf 75 = .ok (.istore 6, 2) := dq_54 (dst 11 rd_prog_14_method_57_code_2 rfl) rfl
theorem dX12_layBestOf_77 : decode cX12_layBestOf 77 = .ok (.aload_n 0, 1) := dq_42 (dst 13 rd_prog_14_method_57_code_2 rfl)
theorem dX12_layBestOf_78 : decode cX12_layBestOf 78 = .ok (.iload_n 1, 1) := dq_27 (dst 14 rd_prog_14_method_57_code_2 rfl)
theorem dX12_layBestOf_79 : decode cX12_layBestOf 79 = .ok (.iload_n 2, 1) := dq_28 (dst 15 rd_prog_14_method_57_code_2 rfl)
theorem dX12_layBestOf_80 : decode cX12_layBestOf 80 = .ok (.iload 6, 2) := dq_21 (dst 16 rd_prog_14_method_57_code_2 rfl) rfl
theorem dX12_layBestOf_82 : decode cX12_layBestOf 82 = .ok (.invokevirtual 174, 3) := dq_182 (dst 18 rd_prog_14_method_57_code_2 rfl) rfl
theorem dX12_layBestOf_85 : decode cX12_layBestOf 85 = .ok (.istore 7, 2) := dq_54 (dst 21 rd_prog_14_method_57_code_2 rfl) rfl
theorem dX12_layBestOf_87 : decode cX12_layBestOf 87 = .ok (.iload 7, 2) := dq_21 (dst 23 rd_prog_14_method_57_code_2 rfl) rfl
theorem dX12_layBestOf_89 : decode cX12_layBestOf 89 = .ok (.bipush (-9), 2) := dq_16 (dst 25 rd_prog_14_method_57_code_2 rfl) (by decide +kernel)
theorem dX12_layBestOf_91 : decode cX12_layBestOf 91 = .ok (.if_icmp .eq 109, 3) := dq_159 (dst 27 rd_prog_14_method_57_code_2 rfl) (by decide +kernel)
theorem dX12_layBestOf_94 : decode cX12_layBestOf 94 = .ok (.aload_n 0, 1) := dq_42 (dst 30 rd_prog_14_method_57_code_2 rfl)
theorem dX12_layBestOf_95 : decode cX12_layBestOf 95 = .ok (.iload 7, 2) := dq_21 (dst 31 rd_prog_14_method_57_code_2 rfl) rfl
theorem dX12_layBestOf_97 : decode cX12_layBestOf 97 = .ok (.iload 6, 2) := dq_21 (dst 1 rd_prog_14_method_57_code_3 rfl) rfl
theorem dX12_layBestOf_99 : decode cX12_layBestOf 99 = .ok (.bipush 10, 2) := dq_16 (dst 3 rd_prog_14_method_57_code_3 rfl) (by decide +kernel)
theorem dX12_layBestOf_101 : decode cX12_layBestOf 101 = .ok (.irem, 1) := dq_112 (dst 5 rd_prog_14_method_57_code_3 rfl)
theorem dX12_layBestOf_102 : decode cX12_layBestOf 102 = .ok (.invokevirtual 238, 3) := dq_182 (dst 6 rd_prog_14_method_57_code_3 rfl) rfl
theorem dX12_layBestOf_105 : decode cX12_layBestOf 105 = .ok (.lstore 8, 2) := dq_55 (dst 9 rd_prog_14_method_57_code_3 rfl) rfl
theorem dX12_layBestOf_107 : decode cX12_layBestOf 107 = .ok (.iconst 0, 1) := dq_3 (dst 11 rd_prog_14_method_57_code_3 rfl)
theorem dX12_layBestOf_108 : decode cX12_layBestOf 108 = .ok (.istore 10, 2) := dq_54 (dst 12 rd_prog_14_method_57_code_3 rfl) rfl
theorem dX12_layBestOf_110 : decode cX12_layBestOf 110 = .ok (.iload 10, 2) := dq_21 (dst 14 rd_prog_14_method_57_code_3 rfl) rfl
theorem dX12_layBestOf_112 : decode cX12_layBestOf 112 = .ok (.iconst 3, 1) := dq_6 (dst 16 rd_prog_14_method_57_code_3 rfl)
theorem dX12_layBestOf_113 : decode cX12_layBestOf 113 = .ok (.if_icmp .ge 87, 3) := dq_162 (dst 17 rd_prog_14_method_57_code_3 rfl) (by decide +kernel)
theorem dX12_layBestOf_116 : decode cX12_layBestOf 116 = .ok (.aload_n 0, 1) := dq_42 (dst 20 rd_prog_14_method_57_code_3 rfl)
theorem dX12_layBestOf_117 : decode cX12_layBestOf 117 = .ok (.iload_n 1, 1) := dq_27 (dst 21 rd_prog_14_method_57_code_3 rfl)
theorem dX12_layBestOf_118 : decode cX12_layBestOf 118 = .ok (.iload 7, 2) := dq_21 (dst 22 rd_prog_14_method_57_code_3 rfl) rfl
theorem dX12_layBestOf_120 : decode cX12_layBestOf 120 = .ok (.iload 10, 2) := dq_21 (dst 24 rd_prog_14_method_57_code_3 rfl) rfl
theorem dX12_layBestOf_122 : decode cX12_layBestOf 122 = .ok (.iload 6, 2) := dq_21 (dst 26 rd_prog_14_method_57_code_3 rfl) rfl
theorem dX12_layBestOf_124 : decode cX12_layBestOf 124 = .ok (.invokevirtual 181, 3) := dq_182 (dst 28 rd_prog_14_method_57_code_3 rfl) rfl
theorem dX12_layBestOf_127 : decode cX12_layBestOf 127 = .ok (.i2l, 1) := dq_133 (dst 31 rd_prog_14_method_57_code_3 rfl)
theorem dX12_layBestOf_128 : decode cX12_layBestOf 128 = .ok (.lload_n 3, 1) := dq_33 (dst 0 rd_prog_14_method_57_code_4 rfl)
theorem dX12_layBestOf_129 : decode cX12_layBestOf 129 = .ok (.lmul, 1) := dq_105 (dst 1 rd_prog_14_method_57_code_4 rfl)
theorem dX12_layBestOf_130 : decode cX12_layBestOf 130 = .ok (.lload 8, 2) := dq_22 (dst 2 rd_prog_14_method_57_code_4 rfl) rfl
theorem dX12_layBestOf_132 : decode cX12_layBestOf 132 = .ok (.ladd, 1) := dq_97 (dst 4 rd_prog_14_method_57_code_4 rfl)
theorem dX12_layBestOf_133 : decode cX12_layBestOf 133 = .ok (.lstore 11, 2) := dq_55 (dst 5 rd_prog_14_method_57_code_4 rfl) rfl
theorem dX12_layBestOf_135 : decode cX12_layBestOf 135 = .ok (.aload_n 0, 1) := dq_42 (dst 7 rd_prog_14_method_57_code_4 rfl)
theorem dX12_layBestOf_136 : decode cX12_layBestOf 136 = .ok (.getfield 41, 3) := dq_180 (dst 8 rd_prog_14_method_57_code_4 rfl) rfl
theorem dX12_layBestOf_139 : decode cX12_layBestOf 139 = .ok (.iconst 3, 1) := dq_6 (dst 11 rd_prog_14_method_57_code_4 rfl)
theorem dX12_layBestOf_140 : decode cX12_layBestOf 140 = .ok (.iload_n 2, 1) := dq_28 (dst 12 rd_prog_14_method_57_code_4 rfl)
theorem dX12_layBestOf_141 : decode cX12_layBestOf 141 = .ok (.imul, 1) := dq_104 (dst 13 rd_prog_14_method_57_code_4 rfl)
theorem dX12_layBestOf_142 : decode cX12_layBestOf 142 = .ok (.iload 10, 2) := dq_21 (dst 14 rd_prog_14_method_57_code_4 rfl) rfl
theorem dX12_layBestOf_144 : decode cX12_layBestOf 144 = .ok (.iadd, 1) := dq_96 (dst 16 rd_prog_14_method_57_code_4 rfl)
theorem dX12_layBestOf_145 : decode cX12_layBestOf 145 = .ok (.laload, 1) := dq_47 (dst 17 rd_prog_14_method_57_code_4 rfl)
theorem dX12_layBestOf_146 : decode cX12_layBestOf 146 = .ok (.lconst 0, 1) := dq_9 (dst 18 rd_prog_14_method_57_code_4 rfl)
theorem dX12_layBestOf_147 : decode cX12_layBestOf 147 = .ok (.lcmp, 1) := dq_148 (dst 19 rd_prog_14_method_57_code_4 rfl)
theorem dX12_layBestOf_148 : decode cX12_layBestOf 148 = .ok (.ifCond .lt 20, 3) := dq_155 (dst 20 rd_prog_14_method_57_code_4 rfl) (by decide +kernel)
theorem dX12_layBestOf_151 : decode cX12_layBestOf 151 = .ok (.lload 11, 2) := dq_22 (dst 23 rd_prog_14_method_57_code_4 rfl) rfl
theorem dX12_layBestOf_153 : decode cX12_layBestOf 153 = .ok (.aload_n 0, 1) := dq_42 (dst 25 rd_prog_14_method_57_code_4 rfl)
theorem dX12_layBestOf_154 : decode cX12_layBestOf 154 = .ok (.getfield 41, 3) := dq_180 (dst 26 rd_prog_14_method_57_code_4 rfl) rfl
theorem dX12_layBestOf_157 : decode cX12_layBestOf 157 = .ok (.iconst 3, 1) := dq_6 (dst 29 rd_prog_14_method_57_code_4 rfl)
theorem dX12_layBestOf_158 : decode cX12_layBestOf 158 = .ok (.iload_n 2, 1) := dq_28 (dst 30 rd_prog_14_method_57_code_4 rfl)
theorem dX12_layBestOf_159 : decode cX12_layBestOf 159 = .ok (.imul, 1) := dq_104 (dst 31 rd_prog_14_method_57_code_4 rfl)
theorem dX12_layBestOf_160 : decode cX12_layBestOf 160 = .ok (.iload 10, 2) := dq_21 (dst 0 rd_prog_14_method_57_code_5 rfl) rfl
theorem dX12_layBestOf_162 : decode cX12_layBestOf 162 = .ok (.iadd, 1) := dq_96 (dst 2 rd_prog_14_method_57_code_5 rfl)
theorem dX12_layBestOf_163 : decode cX12_layBestOf 163 = .ok (.laload, 1) := dq_47 (dst 3 rd_prog_14_method_57_code_5 rfl)
theorem dX12_layBestOf_164 : decode cX12_layBestOf 164 = .ok (.lcmp, 1) := dq_148 (dst 4 rd_prog_14_method_57_code_5 rfl)
theorem dX12_layBestOf_165 : decode cX12_layBestOf 165 = .ok (.ifCond .ge 29, 3) := dq_156 (dst 5 rd_prog_14_method_57_code_5 rfl) (by decide +kernel)
theorem dX12_layBestOf_168 : decode cX12_layBestOf 168 = .ok (.aload_n 0, 1) := dq_42 (dst 8 rd_prog_14_method_57_code_5 rfl)
theorem dX12_layBestOf_169 : decode cX12_layBestOf 169 = .ok (.getfield 41, 3) := dq_180 (dst 9 rd_prog_14_method_57_code_5 rfl) rfl
theorem dX12_layBestOf_172 : decode cX12_layBestOf 172 = .ok (.iconst 3, 1) := dq_6 (dst 12 rd_prog_14_method_57_code_5 rfl)
theorem dX12_layBestOf_173 : decode cX12_layBestOf 173 = .ok (.iload_n 2, 1) := dq_28 (dst 13 rd_prog_14_method_57_code_5 rfl)
theorem dX12_layBestOf_174 : decode cX12_layBestOf 174 = .ok (.imul, 1) := dq_104 (dst 14 rd_prog_14_method_57_code_5 rfl)
theorem dX12_layBestOf_175 : decode cX12_layBestOf 175 = .ok (.iload 10, 2) := dq_21 (dst 15 rd_prog_14_method_57_code_5 rfl) rfl
theorem dX12_layBestOf_177 : decode cX12_layBestOf 177 = .ok (.iadd, 1) := dq_96 (dst 17 rd_prog_14_method_57_code_5 rfl)
theorem dX12_layBestOf_178 : decode cX12_layBestOf 178 = .ok (.lload 11, 2) := dq_22 (dst 18 rd_prog_14_method_57_code_5 rfl) rfl
theorem dX12_layBestOf_180 : decode cX12_layBestOf 180 = .ok (.lastore, 1) := dq_80 (dst 20 rd_prog_14_method_57_code_5 rfl)
theorem dX12_layBestOf_181 : decode cX12_layBestOf 181 = .ok (.aload_n 0, 1) := dq_42 (dst 21 rd_prog_14_method_57_code_5 rfl)
theorem dX12_layBestOf_182 : decode cX12_layBestOf 182 = .ok (.getfield 44, 3) := dq_180 (dst 22 rd_prog_14_method_57_code_5 rfl) rfl
theorem dX12_layBestOf_185 : decode cX12_layBestOf 185 = .ok (.iconst 3, 1) := dq_6 (dst 25 rd_prog_14_method_57_code_5 rfl)
theorem dX12_layBestOf_186 : decode cX12_layBestOf 186 = .ok (.iload_n 2, 1) := dq_28 (dst 26 rd_prog_14_method_57_code_5 rfl)
theorem dX12_layBestOf_187 : decode cX12_layBestOf 187 = .ok (.imul, 1) := dq_104 (dst 27 rd_prog_14_method_57_code_5 rfl)
theorem dX12_layBestOf_188 : decode cX12_layBestOf 188 = .ok (.iload 10, 2) := dq_21 (dst 28 rd_prog_14_method_57_code_5 rfl) rfl
theorem dX12_layBestOf_190 : decode cX12_layBestOf 190 = .ok (.iadd, 1) := dq_96 (dst 30 rd_prog_14_method_57_code_5 rfl)
theorem dX12_layBestOf_191 : decode cX12_layBestOf 191 = .ok (.iload 6, 2) := dq_21 (dst 31 rd_prog_14_method_57_code_5 rfl) rfl
theorem dX12_layBestOf_193 : decode cX12_layBestOf 193 = .ok (.iastore, 1) := dq_79 (dst 1 rd_prog_14_method_57_code_6 rfl)
theorem dX12_layBestOf_194 : decode cX12_layBestOf 194 = .ok (.iinc 10 1, 3) := dq_132 (dst 2 rd_prog_14_method_57_code_6 rfl) rfl (by decide +kernel)
theorem dX12_layBestOf_197 : decode cX12_layBestOf 197 = .ok (.goto (-87), 3) := dq_167 (dst 5 rd_prog_14_method_57_code_6 rfl) (by decide +kernel)
theorem dX12_layBestOf_200 : decode cX12_layBestOf 200 = .ok (.iinc 5 1, 3) := dq_132 (dst 8 rd_prog_14_method_57_code_6 rfl) rfl (by decide +kernel)
theorem dX12_layBestOf_203 : decode cX12_layBestOf 203 = .ok (.goto (-171), 3) := dq_167 (dst 11 rd_prog_14_method_57_code_6 rfl) (by decide +kernel)
theorem dX12_layBestOf_206 : decode cX12_layBestOf 206 = .ok (.return_, 1) := dq_177 (dst 14 rd_prog_14_method_57_code_6 rfl)
theorem lf_X12_best_1 : ∀ w ∈ wsX12_best_r1, w ∈ wsX12_best := fun _ h => (List.mem_cons_of_mem _ (List.mem_append_left _ (List.mem_append_left _ h)))
theorem lf_X12_best_2 : ∀ w ∈ wsX12_best_r2, w ∈ wsX12_best := fun _ h => (List.mem_cons_of_mem _ (List.mem_append_left _ (List.mem_append_right _ (List.mem_append_left _ h))))
theorem lf_X12_best_3 : ∀ w ∈ wsX12_best_r3, w ∈ wsX12_best := fun _ h => (List.mem_cons_of_mem _ (List.mem_append_left _ (List.mem_append_right _ (List.mem_append_right _ (List.mem_append_left _ h)))))
theorem lf_X12_best_4 : ∀ w ∈ wsX12_best_r4, w ∈ wsX12_best := fun _ h => (List.mem_cons_of_mem _ (List.mem_append_left _ (List.mem_append_right _ (List.mem_append_right _ (List.mem_append_right _ h)))))
theorem lf_X12_best_5 : ∀ w ∈ wsX120, w ∈ wsX12_best := fun _ h => (List.mem_cons_of_mem _ (List.mem_append_right _ h))
set_option maxRecDepth 20000 in
theorem ggX12_best_X12_isWeek : GoodIn wsX12_best wsX12_isWeek := (gd_cons (lf_X12_best_1 _ (List.mem_of_getElem? (i := 8) rfl)) rfl (goodIn_app (gd_cons (lf_X12_best_1 _ (List.mem_of_getElem? (i := 3) rfl)) rfl (gd_cons (lf_X12_best_1 _ (List.mem_of_getElem? (i := 9) rfl)) rfl (gd_cons (lf_X12_best_1 _ (List.mem_of_getElem? (i := 10) rfl)) rfl (gd_cons (lf_X12_best_1 _ (List.mem_of_getElem? (i := 7) rfl)) rfl (gd_cons (lf_X12_best_1 _ (List.mem_of_getElem? (i := 11) rfl)) rfl (gd_nil _)))))) (goodIn_sub lf_X12_best_5 ga_wsX120)))
set_option maxRecDepth 20000 in
theorem gX12_best_X12_isWeek : GoodIn wsX12_best (wsV RX12 152 RX12 yX12_isWeek wsX12_isWeek) := goodIn_app (gd_cons (lf_X12_best_1 _ (List.mem_of_getElem? (i := 4) rfl)) rfl (gd_cons (lf_X12_best_1 _ (List.mem_of_getElem? (i := 5) rfl)) rfl (gd_cons (lf_X12_best_1 _ (List.mem_of_getElem? (i := 6) rfl)) rfl (gd_cons (lf_X12_best_1 _ (List.mem_of_getElem? (i := 7) rfl)) rfl (gd_nil _))))) ggX12_best_X12_isWeek
set_option maxRecDepth 20000 in
theorem ggX12_best_X12_isHands : GoodIn wsX12_best wsX12_isHands := (gd_cons (lf_X12_best_1 _ (List.mem_of_getElem? (i := 15) rfl)) rfl (goodIn_app (gd_cons (lf_X12_best_1 _ (List.mem_of_getElem? (i := 16) rfl)) rfl (gd_cons (lf_X12_best_1 _ (List.mem_of_getElem? (i := 3) rfl)) rfl (gd_cons (lf_X12_best_1 _ (List.mem_of_getElem? (i := 9) rfl)) rfl (gd_cons (lf_X12_best_1 _ (List.mem_of_getElem? (i := 10) rfl)) rfl (gd_cons (lf_X12_best_1 _ (List.mem_of_getElem? (i := 7) rfl)) rfl (gd_cons (lf_X12_best_1 _ (List.mem_of_getElem? (i := 11) rfl)) rfl (gd_cons (lf_X12_best_1 _ (List.mem_of_getElem? (i := 17) rfl)) rfl (gd_cons (lf_X12_best_1 _ (List.mem_of_getElem? (i := 18) rfl)) rfl (gd_cons (lf_X12_best_1 _ (List.mem_of_getElem? (i := 19) rfl)) rfl (gd_nil _)))))))))) (goodIn_sub lf_X12_best_5 ga_wsX120)))
set_option maxRecDepth 20000 in
theorem gX12_best_X12_isHands : GoodIn wsX12_best (wsV RX12 171 RX12 yX12_isHands wsX12_isHands) := goodIn_app (gd_cons (lf_X12_best_1 _ (List.mem_of_getElem? (i := 12) rfl)) rfl (gd_cons (lf_X12_best_1 _ (List.mem_of_getElem? (i := 13) rfl)) rfl (gd_cons (lf_X12_best_1 _ (List.mem_of_getElem? (i := 14) rfl)) rfl (gd_cons (lf_X12_best_1 _ (List.mem_of_getElem? (i := 7) rfl)) rfl (gd_nil _))))) ggX12_best_X12_isHands
set_option maxRecDepth 20000 in
theorem ggX12_best_X12_isComing : GoodIn wsX12_best wsX12_isComing := (gd_cons (lf_X12_best_1 _ (List.mem_of_getElem? (i := 23) rfl)) rfl (goodIn_app (gd_cons (lf_X12_best_1 _ (List.mem_of_getElem? (i := 3) rfl)) rfl (gd_cons (lf_X12_best_2 _ (List.mem_of_getElem? (i := 0) rfl)) rfl (gd_cons (lf_X12_best_1 _ (List.mem_of_getElem? (i := 9) rfl)) rfl (gd_cons (lf_X12_best_1 _ (List.mem_of_getElem? (i := 10) rfl)) rfl (gd_cons (lf_X12_best_1 _ (List.mem_of_getElem? (i := 7) rfl)) rfl (gd_cons (lf_X12_best_1 _ (List.mem_of_getElem? (i := 11) rfl)) rfl (gd_nil _))))))) (goodIn_sub lf_X12_best_5 ga_wsX120)))
set_option maxRecDepth 20000 in
theorem gX12_best_X12_isComing : GoodIn wsX12_best (wsV RX12 178 RX12 yX12_isComing wsX12_isComing) := goodIn_app (gd_cons (lf_X12_best_1 _ (List.mem_of_getElem? (i := 20) rfl)) rfl (gd_cons (lf_X12_best_1 _ (List.mem_of_getElem? (i := 21) rfl)) rfl (gd_cons (lf_X12_best_1 _ (List.mem_of_getElem? (i := 22) rfl)) rfl (gd_cons (lf_X12_best_1 _ (List.mem_of_getElem? (i := 7) rfl)) rfl (gd_nil _))))) ggX12_best_X12_isComing
set_option maxRecDepth 20000 in
theorem ggX12_best_X12_layBest : GoodIn wsX12_best wsX12_layBest := (gd_cons (lf_X12_best_2 _ (List.mem_of_getElem? (i := 4) rfl)) rfl (goodIn_app (goodIn_app (gd_cons (lf_X12_best_1 _ (List.mem_of_getElem? (i := 2) rfl)) rfl (gd_cons (lf_X12_best_1 _ (List.mem_of_getElem? (i := 3) rfl)) rfl (gd_cons (lf_X12_best_2 _ (List.mem_of_getElem? (i := 5) rfl)) rfl (gd_cons (lf_X12_best_1 _ (List.mem_of_getElem? (i := 12) rfl)) rfl (gd_cons (lf_X12_best_1 _ (List.mem_of_getElem? (i := 13) rfl)) rfl (gd_cons (lf_X12_best_1 _ (List.mem_of_getElem? (i := 14) rfl)) rfl (gd_cons (lf_X12_best_1 _ (List.mem_of_getElem? (i := 7) rfl)) rfl (gd_cons (lf_X12_best_1 _ (List.mem_of_getElem? (i := 15) rfl)) rfl (gd_cons (lf_X12_best_1 _ (List.mem_of_getElem? (i := 16) rfl)) rfl (gd_cons (lf_X12_best_1 _ (List.mem_of_getElem? (i := 9) rfl)) rfl (gd_cons (lf_X12_best_1 _ (List.mem_of_getElem? (i := 10) rfl)) rfl (gd_cons (lf_X12_best_1 _ (List.mem_of_getElem? (i := 11) rfl)) rfl (gd_cons (lf_X12_best_1 _ (List.mem_of_getElem? (i := 17) rfl)) rfl (gd_cons (lf_X12_best_1 _ (List.mem_of_getElem? (i := 18) rfl)) rfl (gd_cons (lf_X12_best_1 _ (List.mem_of_getElem? (i := 19) rfl)) rfl (gd_cons (lf_X12_best_2 _ (List.mem_of_getElem? (i := 6) rfl)) rfl (gd_cons (lf_X12_best_2 _ (List.mem_of_getElem? (i := 7) rfl)) rfl (gd_cons (lf_X12_best_2 _ (List.mem_of_getElem? (i := 8) rfl)) rfl (gd_cons (lf_X12_best_2 _ (List.mem_of_getElem? (i := 9) rfl)) rfl (gd_cons (lf_X12_best_2 _ (List.mem_of_getElem? (i := 10) rfl)) rfl (gd_cons (lf_X12_best_2 _ (List.mem_of_getElem? (i := 11) rfl)) rfl (gd_cons (lf_X12_best_2 _ (List.mem_of_getElem? (i := 12) rfl)) rfl (gd_cons (lf_X12_best_2 _ (List.mem_of_getElem? (i := 13) rfl)) rfl (gd_cons (lf_X12_best_2 _ (List.mem_of_getElem? (i := 14) rfl)) rfl (gd_nil _))))))))))))))))))))))))) (goodIn_app (gd_cons (lf_X12_best_2 _ (List.mem_of_getElem? (i := 15) rfl)) rfl (gd_cons (lf_X12_best_2 _ (List.mem_of_getElem? (i := 16) rfl)) rfl (gd_cons (lf_X12_best_2 _ (List.mem_of_getElem? (i := 17) rfl)) rfl (gd_cons (lf_X12_best_1 _ (List.mem_of_getElem? (i := 0) rfl)) rfl (gd_cons (lf_X12_best_2 _ (List.mem_of_getElem? (i := 18) rfl)) rfl (gd_cons (lf_X12_best_2 _ (List.mem_of_getElem? (i := 19) rfl)) rfl (gd_cons (lf_X12_best_2 _ (List.mem_of_getElem? (i := 20) rfl)) rfl (gd_cons (lf_X12_best_2 _ (List.mem_of_getElem? (i := 21) rfl)) rfl (gd_cons (lf_X12_best_2 _ (List.mem_of_getElem? (i := 22) rfl)) rfl (gd_cons (lf_X12_best_2 _ (List.mem_of_getElem? (i := 23) rfl)) rfl (gd_cons (lf_X12_best_3 _ (List.mem_of_getElem? (i := 0) rfl)) rfl (gd_cons (lf_X12_best_3 _ (List.mem_of_getElem? (i := 1) rfl)) rfl (gd_cons (lf_X12_best_3 _ (List.mem_of_getElem? (i := 2) rfl)) rfl (gd_cons (lf_X12_best_3 _ (List.mem_of_getElem? (i := 3) rfl)) rfl (gd_cons (lf_X12_best_3 _ (List.mem_of_getElem? (i := 4) rfl)) rfl (gd_cons (lf_X12_best_3 _ (List.mem_of_getElem? (i := 5) rfl)) rfl (gd_cons (lf_X12_best_3 _ (List.mem_of_getElem? (i := 6) rfl)) rfl (gd_cons (lf_X12_best_3 _ (List.mem_of_getElem? (i := 7) rfl)) rfl (gd_cons (lf_X12_best_3 _ (List.mem_of_getElem? (i := 8) rfl)) rfl (gd_cons (lf_X12_best_3 _ (List.mem_of_getElem? (i := 9) rfl)) rfl (gd_cons (lf_X12_best_3 _ (List.mem_of_getElem? (i := 10) rfl)) rfl (gd_cons (lf_X12_best_3 _ (List.mem_of_getElem? (i := 11) rfl)) rfl (gd_cons (lf_X12_best_3 _ (List.mem_of_getElem? (i := 12) rfl)) rfl (gd_cons (lf_X12_best_3 _ (List.mem_of_getElem? (i := 13) rfl)) rfl (gd_nil _))))))))))))))))))))))))) (gd_cons (lf_X12_best_3 _ (List.mem_of_getElem? (i := 14) rfl)) rfl (gd_cons (lf_X12_best_3 _ (List.mem_of_getElem? (i := 15) rfl)) rfl (gd_cons (lf_X12_best_3 _ (List.mem_of_getElem? (i := 16) rfl)) rfl (gd_cons (lf_X12_best_3 _ (List.mem_of_getElem? (i := 17) rfl)) rfl (gd_cons (lf_X12_best_3 _ (List.mem_of_getElem? (i := 18) rfl)) rfl (gd_cons (lf_X12_best_3 _ (List.mem_of_getElem? (i := 19) rfl)) rfl (gd_cons (lf_X12_best_3 _ (List.mem_of_getElem? (i := 20) rfl)) rfl (gd_cons (lf_X12_best_3 _ (List.mem_of_getElem? (i := 21) rfl)) rfl (gd_cons (lf_X12_best_3 _ (List.mem_of_getElem? (i := 22) rfl)) rfl (gd_cons (lf_X12_best_3 _ (List.mem_of_getElem? (i := 23) rfl)) rfl (gd_cons (lf_X12_best_4 _ (List.mem_of_getElem? (i := 0) rfl)) rfl (gd_cons (lf_X12_best_4 _ (List.mem_of_getElem? (i := 1) rfl)) rfl (gd_cons (lf_X12_best_4 _ (List.mem_of_getElem? (i := 2) rfl)) rfl (gd_cons (lf_X12_best_4 _ (List.mem_of_getElem? (i := 3) rfl)) rfl (gd_cons (lf_X12_best_4 _ (List.mem_of_getElem? (i := 4) rfl)) rfl (gd_cons (lf_X12_best_4 _ (List.mem_of_getElem? (i := 5) rfl)) rfl (gd_cons (lf_X12_best_4 _ (List.mem_of_getElem? (i := 6) rfl)) rfl (gd_cons (lf_X12_best_4 _ (List.mem_of_getElem? (i := 7) rfl)) rfl (gd_nil _))))))))))))))))))))) (goodIn_sub lf_X12_best_5 ga_wsX120)))
set_option maxRecDepth 20000 in
theorem gX12_best_X12_layBest : GoodIn wsX12_best (wsV RX12 242 RX12 yX12_layBest wsX12_layBest) := goodIn_app (gd_cons (lf_X12_best_2 _ (List.mem_of_getElem? (i := 1) rfl)) rfl (gd_cons (lf_X12_best_2 _ (List.mem_of_getElem? (i := 2) rfl)) rfl (gd_cons (lf_X12_best_2 _ (List.mem_of_getElem? (i := 3) rfl)) rfl (gd_cons (lf_X12_best_1 _ (List.mem_of_getElem? (i := 7) rfl)) rfl (gd_nil _))))) ggX12_best_X12_layBest
set_option maxRecDepth 20000 in
theorem ggX12_best_X12_parts : GoodIn wsX12_best wsX12_parts := (gd_cons (lf_X12_best_2 _ (List.mem_of_getElem? (i := 12) rfl)) rfl (gd_cons (lf_X12_best_2 _ (List.mem_of_getElem? (i := 13) rfl)) rfl (gd_nil _)))
set_option maxRecDepth 20000 in
theorem gX12_best_X12_parts : GoodIn wsX12_best (va_wsS RX12 214 yX12_parts wsX12_parts) := goodIn_app (gd_cons (lf_X12_best_2 _ (List.mem_of_getElem? (i := 10) rfl)) rfl (gd_cons (lf_X12_best_2 _ (List.mem_of_getElem? (i := 11) rfl)) rfl (gd_cons (lf_X12_best_1 _ (List.mem_of_getElem? (i := 7) rfl)) rfl (gd_nil _)))) ggX12_best_X12_parts
set_option maxRecDepth 20000 in
theorem ggX12_best_X12_told : GoodIn wsX12_best wsX12_told := (gd_cons (lf_X12_best_4 _ (List.mem_of_getElem? (i := 10) rfl)) rfl (gd_cons (lf_X12_best_4 _ (List.mem_of_getElem? (i := 11) rfl)) rfl (gd_cons (lf_X12_best_4 _ (List.mem_of_getElem? (i := 12) rfl)) rfl (gd_cons (lf_X12_best_1 _ (List.mem_of_getElem? (i := 7) rfl)) rfl (gd_cons (lf_X12_best_4 _ (List.mem_of_getElem? (i := 13) rfl)) rfl (gd_nil _))))))
set_option maxRecDepth 20000 in
theorem gX12_best_X12_told : GoodIn wsX12_best (va_wsS RX12 202 yX12_told wsX12_told) := goodIn_app (gd_cons (lf_X12_best_4 _ (List.mem_of_getElem? (i := 8) rfl)) rfl (gd_cons (lf_X12_best_4 _ (List.mem_of_getElem? (i := 9) rfl)) rfl (gd_cons (lf_X12_best_1 _ (List.mem_of_getElem? (i := 7) rfl)) rfl (gd_nil _)))) ggX12_best_X12_told
theorem dX12_best_0 : decode cX12_best 0 = .ok (.aload_n 0, 1) := dq_42 (dst 0 rd_prog_14_method_58_code_0 rfl)
theorem dX12_best_1 : decode cX12_best 1 = .ok (.iload_n 1, 1) := dq_27 (dst 1 rd_prog_14_method_58_code_0 rfl)
theorem dX12_best_2 : decode cX12_best 2 = .ok (.invokevirtual 152, 3) := dq_182 (dst 2 rd_prog_14_method_58_code_0 rfl) rfl
theorem dX12_best_5 : decode cX12_best 5 = .ok (.ifCond .ne 7, 3) := dq_154 (dst 5 rd_prog_14_method_58_code_0 rfl) (by decide +kernel)
theorem dX12_best_8 : decode cX12_best 8 = .ok (.ldc2_w 221, 3) := dq_20 (dst 8 rd_prog_14_method_58_code_0 rfl) rfl
theorem dX12_best_11 : decode cX12_best 11 = .ok (.lreturn, 1) := dq_173 (dst 11 rd_prog_14_method_58_code_0 rfl)
theorem dX12_best_12 : decode cX12_best 12 = .ok (.aload_n 0, 1) := dq_42 (dst 12 rd_prog_14_method_58_code_0 rfl)
theorem dX12_best_13 : decode cX12_best 13 = .ok (.iload_n 2, 1) := dq_28 (dst 13 rd_prog_14_method_58_code_0 rfl)
theorem dX12_best_14 : decode cX12_best 14 = .ok (.invokevirtual 171, 3) := dq_182 (dst 14 rd_prog_14_method_58_code_0 rfl) rfl
theorem dX12_best_17 : decode cX12_best 17 = .ok (.ifCond .eq 11, 3) := dq_153 (dst 17 rd_prog_14_method_58_code_0 rfl) (by decide +kernel)
theorem dX12_best_20 : decode cX12_best 20 = .ok (.aload_n 0, 1) := dq_42 (dst 20 rd_prog_14_method_58_code_0 rfl)
theorem dX12_best_21 : decode cX12_best 21 = .ok (.iload_n 3, 1) := dq_29 (dst 21 rd_prog_14_method_58_code_0 rfl)
theorem dX12_best_22 : decode cX12_best 22 = .ok (.invokevirtual 178, 3) := dq_182 (dst 22 rd_prog_14_method_58_code_0 rfl) rfl
theorem dX12_best_25 : decode cX12_best 25 = .ok (.ifCond .ne 7, 3) := dq_154 (dst 25 rd_prog_14_method_58_code_0 rfl) (by decide +kernel)
theorem dX12_best_28 : decode cX12_best 28 = .ok (.ldc2_w 206, 3) := dq_20 (dst 28 rd_prog_14_method_58_code_0 rfl) rfl
theorem dX12_best_31 : decode cX12_best 31 = .ok (.lreturn, 1) := dq_173 (dst 31 rd_prog_14_method_58_code_0 rfl)
theorem dX12_best_32 : decode cX12_best 32 = .ok (.aload_n 0, 1) := dq_42 (dst 0 rd_prog_14_method_58_code_1 rfl)
theorem dX12_best_33 : decode cX12_best 33 = .ok (.iload_n 1, 1) := dq_27 (dst 1 rd_prog_14_method_58_code_1 rfl)
theorem dX12_best_34 : decode cX12_best 34 = .ok (.invokevirtual 242, 3) := dq_182 (dst 2 rd_prog_14_method_58_code_1 rfl) rfl
theorem dX12_best_37 : decode cX12_best 37 = .ok (.aload_n 0, 1) := dq_42 (dst 5 rd_prog_14_method_58_code_1 rfl)
theorem dX12_best_38 : decode cX12_best 38 = .ok (.getfield 38, 3) := dq_180 (dst 6 rd_prog_14_method_58_code_1 rfl) rfl
theorem dX12_best_41 : decode cX12_best 41 = .ok (.iconst 3, 1) := dq_6 (dst 9 rd_prog_14_method_58_code_1 rfl)
theorem dX12_best_42 : decode cX12_best 42 = .ok (.iload_n 2, 1) := dq_28 (dst 10 rd_prog_14_method_58_code_1 rfl)
theorem dX12_best_43 : decode cX12_best 43 = .ok (.imul, 1) := dq_104 (dst 11 rd_prog_14_method_58_code_1 rfl)
theorem dX12_best_44 : decode cX12_best 44 = .ok (.iload_n 3, 1) := dq_29 (dst 12 rd_prog_14_method_58_code_1 rfl)
theorem dX12_best_45 : decode cX12_best 45 = .ok (.iadd, 1) := dq_96 (dst 13 rd_prog_14_method_58_code_1 rfl)
theorem dX12_best_46 : decode cX12_best 46 = .ok (.laload, 1) := dq_47 (dst 14 rd_prog_14_method_58_code_1 rfl)
theorem dX12_best_47 : decode cX12_best 47 = .ok (.aload_n 0, 1) := dq_42 (dst 15 rd_prog_14_method_58_code_1 rfl)
theorem dX12_best_48 : decode cX12_best 48 = .ok (.getfield 13, 3) := dq_180 (dst 16 rd_prog_14_method_58_code_1 rfl) rfl
theorem dX12_best_51 : decode cX12_best 51 = .ok (.iconst 0, 1) := dq_3 (dst 19 rd_prog_14_method_58_code_1 rfl)
theorem dX12_best_52 : decode cX12_best 52 = .ok (.iaload, 1) := dq_46 (dst 20 rd_prog_14_method_58_code_1 rfl)
theorem dX12_best_53 : decode cX12_best 53 = .ok (.iload_n 1, 1) := dq_27 (dst 21 rd_prog_14_method_58_code_1 rfl)
theorem dX12_best_54 : decode cX12_best 54 = .ok (.isub, 1) := dq_100 (dst 22 rd_prog_14_method_58_code_1 rfl)
theorem dX12_best_55 : decode cX12_best 55 = .ok (.invokestatic 214, 3) := dq_184 (dst 23 rd_prog_14_method_58_code_1 rfl) rfl
theorem dX12_best_58 : decode cX12_best 58 = .ok (.iload 4, 2) := dq_21 (dst 26 rd_prog_14_method_58_code_1 rfl) rfl
theorem dX12_best_60 : decode cX12_best 60 = .ok (.invokestatic 202, 3) := dq_184 (dst 28 rd_prog_14_method_58_code_1 rfl) rfl
theorem dX12_best_63 : decode cX12_best 63 = .ok (.lreturn, 1) := dq_173 (dst 31 rd_prog_14_method_58_code_1 rfl)
theorem lf_X12_bestAct_1 : ∀ w ∈ wsX12_bestAct_r1, w ∈ wsX12_bestAct := fun _ h => (List.mem_cons_of_mem _ (List.mem_append_left _ (List.mem_append_left _ h)))
theorem lf_X12_bestAct_2 : ∀ w ∈ wsX12_bestAct_r2, w ∈ wsX12_bestAct := fun _ h => (List.mem_cons_of_mem _ (List.mem_append_left _ (List.mem_append_right _ (List.mem_append_left _ h))))
theorem lf_X12_bestAct_3 : ∀ w ∈ wsX12_bestAct_r3, w ∈ wsX12_bestAct := fun _ h => (List.mem_cons_of_mem _ (List.mem_append_left _ (List.mem_append_right _ (List.mem_append_right _ (List.mem_append_left _ h)))))
theorem lf_X12_bestAct_4 : ∀ w ∈ wsX12_bestAct_r4, w ∈ wsX12_bestAct := fun _ h => (List.mem_cons_of_mem _ (List.mem_append_left _ (List.mem_append_right _ (List.mem_append_right _ (List.mem_append_right _ h)))))
theorem lf_X12_bestAct_5 : ∀ w ∈ wsX120, w ∈ wsX12_bestAct := fun _ h => (List.mem_cons_of_mem _ (List.mem_append_right _ h))
set_option maxRecDepth 20000 in
theorem ggX12_bestAct_X12_isWeek : GoodIn wsX12_bestAct wsX12_isWeek := (gd_cons (lf_X12_bestAct_1 _ (List.mem_of_getElem? (i := 5) rfl)) rfl (goodIn_app (gd_cons (lf_X12_bestAct_1 _ (List.mem_of_getElem? (i := 6) rfl)) rfl (gd_cons (lf_X12_bestAct_1 _ (List.mem_of_getElem? (i := 7) rfl)) rfl (gd_cons (lf_X12_bestAct_1 _ (List.mem_of_getElem? (i := 8) rfl)) rfl (gd_cons (lf_X12_bestAct_1 _ (List.mem_of_getElem? (i := 4) rfl)) rfl (gd_cons (lf_X12_bestAct_1 _ (List.mem_of_getElem? (i := 9) rfl)) rfl (gd_nil _)))))) (goodIn_sub lf_X12_bestAct_5 ga_wsX120)))
set_option maxRecDepth 20000 in
theorem gX12_bestAct_X12_isWeek : GoodIn wsX12_bestAct (wsV RX12 152 RX12 yX12_isWeek wsX12_isWeek) := goodIn_app (gd_cons (lf_X12_bestAct_1 _ (List.mem_of_getElem? (i := 1) rfl)) rfl (gd_cons (lf_X12_bestAct_1 _ (List.mem_of_getElem? (i := 2) rfl)) rfl (gd_cons (lf_X12_bestAct_1 _ (List.mem_of_getElem? (i := 3) rfl)) rfl (gd_cons (lf_X12_bestAct_1 _ (List.mem_of_getElem? (i := 4) rfl)) rfl (gd_nil _))))) ggX12_bestAct_X12_isWeek
set_option maxRecDepth 20000 in
theorem ggX12_bestAct_X12_isHands : GoodIn wsX12_bestAct wsX12_isHands := (gd_cons (lf_X12_bestAct_1 _ (List.mem_of_getElem? (i := 13) rfl)) rfl (goodIn_app (gd_cons (lf_X12_bestAct_1 _ (List.mem_of_getElem? (i := 14) rfl)) rfl (gd_cons (lf_X12_bestAct_1 _ (List.mem_of_getElem? (i := 6) rfl)) rfl (gd_cons (lf_X12_bestAct_1 _ (List.mem_of_getElem? (i := 7) rfl)) rfl (gd_cons (lf_X12_bestAct_1 _ (List.mem_of_getElem? (i := 8) rfl)) rfl (gd_cons (lf_X12_bestAct_1 _ (List.mem_of_getElem? (i := 4) rfl)) rfl (gd_cons (lf_X12_bestAct_1 _ (List.mem_of_getElem? (i := 9) rfl)) rfl (gd_cons (lf_X12_bestAct_1 _ (List.mem_of_getElem? (i := 15) rfl)) rfl (gd_cons (lf_X12_bestAct_1 _ (List.mem_of_getElem? (i := 16) rfl)) rfl (gd_cons (lf_X12_bestAct_1 _ (List.mem_of_getElem? (i := 17) rfl)) rfl (gd_nil _)))))))))) (goodIn_sub lf_X12_bestAct_5 ga_wsX120)))
set_option maxRecDepth 20000 in
theorem gX12_bestAct_X12_isHands : GoodIn wsX12_bestAct (wsV RX12 171 RX12 yX12_isHands wsX12_isHands) := goodIn_app (gd_cons (lf_X12_bestAct_1 _ (List.mem_of_getElem? (i := 10) rfl)) rfl (gd_cons (lf_X12_bestAct_1 _ (List.mem_of_getElem? (i := 11) rfl)) rfl (gd_cons (lf_X12_bestAct_1 _ (List.mem_of_getElem? (i := 12) rfl)) rfl (gd_cons (lf_X12_bestAct_1 _ (List.mem_of_getElem? (i := 4) rfl)) rfl (gd_nil _))))) ggX12_bestAct_X12_isHands
set_option maxRecDepth 20000 in
theorem ggX12_bestAct_X12_isComing : GoodIn wsX12_bestAct wsX12_isComing := (gd_cons (lf_X12_bestAct_1 _ (List.mem_of_getElem? (i := 21) rfl)) rfl (goodIn_app (gd_cons (lf_X12_bestAct_1 _ (List.mem_of_getElem? (i := 6) rfl)) rfl (gd_cons (lf_X12_bestAct_1 _ (List.mem_of_getElem? (i := 22) rfl)) rfl (gd_cons (lf_X12_bestAct_1 _ (List.mem_of_getElem? (i := 7) rfl)) rfl (gd_cons (lf_X12_bestAct_1 _ (List.mem_of_getElem? (i := 8) rfl)) rfl (gd_cons (lf_X12_bestAct_1 _ (List.mem_of_getElem? (i := 4) rfl)) rfl (gd_cons (lf_X12_bestAct_1 _ (List.mem_of_getElem? (i := 9) rfl)) rfl (gd_nil _))))))) (goodIn_sub lf_X12_bestAct_5 ga_wsX120)))
set_option maxRecDepth 20000 in
theorem gX12_bestAct_X12_isComing : GoodIn wsX12_bestAct (wsV RX12 178 RX12 yX12_isComing wsX12_isComing) := goodIn_app (gd_cons (lf_X12_bestAct_1 _ (List.mem_of_getElem? (i := 18) rfl)) rfl (gd_cons (lf_X12_bestAct_1 _ (List.mem_of_getElem? (i := 19) rfl)) rfl (gd_cons (lf_X12_bestAct_1 _ (List.mem_of_getElem? (i := 20) rfl)) rfl (gd_cons (lf_X12_bestAct_1 _ (List.mem_of_getElem? (i := 4) rfl)) rfl (gd_nil _))))) ggX12_bestAct_X12_isComing
set_option maxRecDepth 20000 in
theorem ggX12_bestAct_X12_layBest : GoodIn wsX12_bestAct wsX12_layBest := (gd_cons (lf_X12_bestAct_2 _ (List.mem_of_getElem? (i := 2) rfl)) rfl (goodIn_app (goodIn_app (gd_cons (lf_X12_bestAct_2 _ (List.mem_of_getElem? (i := 3) rfl)) rfl (gd_cons (lf_X12_bestAct_1 _ (List.mem_of_getElem? (i := 6) rfl)) rfl (gd_cons (lf_X12_bestAct_2 _ (List.mem_of_getElem? (i := 4) rfl)) rfl (gd_cons (lf_X12_bestAct_1 _ (List.mem_of_getElem? (i := 10) rfl)) rfl (gd_cons (lf_X12_bestAct_1 _ (List.mem_of_getElem? (i := 11) rfl)) rfl (gd_cons (lf_X12_bestAct_1 _ (List.mem_of_getElem? (i := 12) rfl)) rfl (gd_cons (lf_X12_bestAct_1 _ (List.mem_of_getElem? (i := 4) rfl)) rfl (gd_cons (lf_X12_bestAct_1 _ (List.mem_of_getElem? (i := 13) rfl)) rfl (gd_cons (lf_X12_bestAct_1 _ (List.mem_of_getElem? (i := 14) rfl)) rfl (gd_cons (lf_X12_bestAct_1 _ (List.mem_of_getElem? (i := 7) rfl)) rfl (gd_cons (lf_X12_bestAct_1 _ (List.mem_of_getElem? (i := 8) rfl)) rfl (gd_cons (lf_X12_bestAct_1 _ (List.mem_of_getElem? (i := 9) rfl)) rfl (gd_cons (lf_X12_bestAct_1 _ (List.mem_of_getElem? (i := 15) rfl)) rfl (gd_cons (lf_X12_bestAct_1 _ (List.mem_of_getElem? (i := 16) rfl)) rfl (gd_cons (lf_X12_bestAct_1 _ (List.mem_of_getElem? (i := 17) rfl)) rfl (gd_cons (lf_X12_bestAct_2 _ (List.mem_of_getElem? (i := 5) rfl)) rfl (gd_cons (lf_X12_bestAct_2 _ (List.mem_of_getElem? (i := 6) rfl)) rfl (gd_cons (lf_X12_bestAct_2 _ (List.mem_of_getElem? (i := 7) rfl)) rfl (gd_cons (lf_X12_bestAct_2 _ (List.mem_of_getElem? (i := 8) rfl)) rfl (gd_cons (lf_X12_bestAct_2 _ (List.mem_of_getElem? (i := 9) rfl)) rfl (gd_cons (lf_X12_bestAct_2 _ (List.mem_of_getElem? (i := 10) rfl)) rfl (gd_cons (lf_X12_bestAct_2 _ (List.mem_of_getElem? (i := 11) rfl)) rfl (gd_cons (lf_X12_bestAct_2 _ (List.mem_of_getElem? (i := 12) rfl)) rfl (gd_cons (lf_X12_bestAct_2 _ (List.mem_of_getElem? (i := 13) rfl)) rfl (gd_nil _))))))))))))))))))))))))) (goodIn_app (gd_cons (lf_X12_bestAct_2 _ (List.mem_of_getElem? (i := 14) rfl)) rfl (gd_cons (lf_X12_bestAct_2 _ (List.mem_of_getElem? (i := 15) rfl)) rfl (gd_cons (lf_X12_bestAct_2 _ (List.mem_of_getElem? (i := 16) rfl)) rfl (gd_cons (lf_X12_bestAct_2 _ (List.mem_of_getElem? (i := 17) rfl)) rfl (gd_cons (lf_X12_bestAct_1 _ (List.mem_of_getElem? (i := 0) rfl)) rfl (gd_cons (lf_X12_bestAct_2 _ (List.mem_of_getElem? (i := 18) rfl)) rfl (gd_cons (lf_X12_bestAct_2 _ (List.mem_of_getElem? (i := 19) rfl)) rfl (gd_cons (lf_X12_bestAct_2 _ (List.mem_of_getElem? (i := 20) rfl)) rfl (gd_cons (lf_X12_bestAct_2 _ (List.mem_of_getElem? (i := 21) rfl)) rfl (gd_cons (lf_X12_bestAct_2 _ (List.mem_of_getElem? (i := 22) rfl)) rfl (gd_cons (lf_X12_bestAct_2 _ (List.mem_of_getElem? (i := 23) rfl)) rfl (gd_cons (lf_X12_bestAct_3 _ (List.mem_of_getElem? (i := 0) rfl)) rfl (gd_cons (lf_X12_bestAct_3 _ (List.mem_of_getElem? (i := 1) rfl)) rfl (gd_cons (lf_X12_bestAct_3 _ (List.mem_of_getElem? (i := 2) rfl)) rfl (gd_cons (lf_X12_bestAct_3 _ (List.mem_of_getElem? (i := 3) rfl)) rfl (gd_cons (lf_X12_bestAct_3 _ (List.mem_of_getElem? (i := 4) rfl)) rfl (gd_cons (lf_X12_bestAct_3 _ (List.mem_of_getElem? (i := 5) rfl)) rfl (gd_cons (lf_X12_bestAct_3 _ (List.mem_of_getElem? (i := 6) rfl)) rfl (gd_cons (lf_X12_bestAct_3 _ (List.mem_of_getElem? (i := 7) rfl)) rfl (gd_cons (lf_X12_bestAct_3 _ (List.mem_of_getElem? (i := 8) rfl)) rfl (gd_cons (lf_X12_bestAct_3 _ (List.mem_of_getElem? (i := 9) rfl)) rfl (gd_cons (lf_X12_bestAct_3 _ (List.mem_of_getElem? (i := 10) rfl)) rfl (gd_cons (lf_X12_bestAct_3 _ (List.mem_of_getElem? (i := 11) rfl)) rfl (gd_cons (lf_X12_bestAct_3 _ (List.mem_of_getElem? (i := 12) rfl)) rfl (gd_nil _))))))))))))))))))))))))) (gd_cons (lf_X12_bestAct_3 _ (List.mem_of_getElem? (i := 13) rfl)) rfl (gd_cons (lf_X12_bestAct_3 _ (List.mem_of_getElem? (i := 14) rfl)) rfl (gd_cons (lf_X12_bestAct_3 _ (List.mem_of_getElem? (i := 15) rfl)) rfl (gd_cons (lf_X12_bestAct_3 _ (List.mem_of_getElem? (i := 16) rfl)) rfl (gd_cons (lf_X12_bestAct_3 _ (List.mem_of_getElem? (i := 17) rfl)) rfl (gd_cons (lf_X12_bestAct_3 _ (List.mem_of_getElem? (i := 18) rfl)) rfl (gd_cons (lf_X12_bestAct_3 _ (List.mem_of_getElem? (i := 19) rfl)) rfl (gd_cons (lf_X12_bestAct_3 _ (List.mem_of_getElem? (i := 20) rfl)) rfl (gd_cons (lf_X12_bestAct_3 _ (List.mem_of_getElem? (i := 21) rfl)) rfl (gd_cons (lf_X12_bestAct_3 _ (List.mem_of_getElem? (i := 22) rfl)) rfl (gd_cons (lf_X12_bestAct_3 _ (List.mem_of_getElem? (i := 23) rfl)) rfl (gd_cons (lf_X12_bestAct_4 _ (List.mem_of_getElem? (i := 0) rfl)) rfl (gd_cons (lf_X12_bestAct_4 _ (List.mem_of_getElem? (i := 1) rfl)) rfl (gd_cons (lf_X12_bestAct_4 _ (List.mem_of_getElem? (i := 2) rfl)) rfl (gd_cons (lf_X12_bestAct_4 _ (List.mem_of_getElem? (i := 3) rfl)) rfl (gd_cons (lf_X12_bestAct_4 _ (List.mem_of_getElem? (i := 4) rfl)) rfl (gd_cons (lf_X12_bestAct_4 _ (List.mem_of_getElem? (i := 5) rfl)) rfl (gd_cons (lf_X12_bestAct_4 _ (List.mem_of_getElem? (i := 6) rfl)) rfl (gd_nil _))))))))))))))))))))) (goodIn_sub lf_X12_bestAct_5 ga_wsX120)))
set_option maxRecDepth 20000 in
theorem gX12_bestAct_X12_layBest : GoodIn wsX12_bestAct (wsV RX12 242 RX12 yX12_layBest wsX12_layBest) := goodIn_app (gd_cons (lf_X12_bestAct_1 _ (List.mem_of_getElem? (i := 23) rfl)) rfl (gd_cons (lf_X12_bestAct_2 _ (List.mem_of_getElem? (i := 0) rfl)) rfl (gd_cons (lf_X12_bestAct_2 _ (List.mem_of_getElem? (i := 1) rfl)) rfl (gd_cons (lf_X12_bestAct_1 _ (List.mem_of_getElem? (i := 4) rfl)) rfl (gd_nil _))))) ggX12_bestAct_X12_layBest
theorem dX12_bestAct_0 : decode cX12_bestAct 0 = .ok (.aload_n 0, 1) := dq_42 (dst 0 rd_prog_14_method_59_code_0 rfl)
theorem dX12_bestAct_1 : decode cX12_bestAct 1 = .ok (.iload_n 1, 1) := dq_27 (dst 1 rd_prog_14_method_59_code_0 rfl)
theorem dX12_bestAct_2 : decode cX12_bestAct 2 = .ok (.invokevirtual 152, 3) := dq_182 (dst 2 rd_prog_14_method_59_code_0 rfl) rfl
theorem dX12_bestAct_5 : decode cX12_bestAct 5 = .ok (.ifCond .ne 5, 3) := dq_154 (dst 5 rd_prog_14_method_59_code_0 rfl) (by decide +kernel)
theorem dX12_bestAct_8 : decode cX12_bestAct 8 = .ok (.iconst (-1), 1) := dq_2 (dst 8 rd_prog_14_method_59_code_0 rfl)
theorem dX12_bestAct_9 : decode cX12_bestAct 9 = .ok (.ireturn, 1) := dq_172 (dst 9 rd_prog_14_method_59_code_0 rfl)
theorem dX12_bestAct_10 : decode cX12_bestAct 10 = .ok (.aload_n 0, 1) := dq_42 (dst 10 rd_prog_14_method_59_code_0 rfl)
theorem dX12_bestAct_11 : decode cX12_bestAct 11 = .ok (.iload_n 2, 1) := dq_28 (dst 11 rd_prog_14_method_59_code_0 rfl)
theorem dX12_bestAct_12 : decode cX12_bestAct 12 = .ok (.invokevirtual 171, 3) := dq_182 (dst 12 rd_prog_14_method_59_code_0 rfl) rfl
theorem dX12_bestAct_15 : decode cX12_bestAct 15 = .ok (.ifCond .eq 11, 3) := dq_153 (dst 15 rd_prog_14_method_59_code_0 rfl) (by decide +kernel)
theorem dX12_bestAct_18 : decode cX12_bestAct 18 = .ok (.aload_n 0, 1) := dq_42 (dst 18 rd_prog_14_method_59_code_0 rfl)
theorem dX12_bestAct_19 : decode cX12_bestAct 19 = .ok (.iload_n 3, 1) := dq_29 (dst 19 rd_prog_14_method_59_code_0 rfl)
theorem dX12_bestAct_20 : decode cX12_bestAct 20 = .ok (.invokevirtual 178, 3) := dq_182 (dst 20 rd_prog_14_method_59_code_0 rfl) rfl
theorem dX12_bestAct_23 : decode cX12_bestAct 23 = .ok (.ifCond .ne 6, 3) := dq_154 (dst 23 rd_prog_14_method_59_code_0 rfl) (by decide +kernel)
theorem dX12_bestAct_26 : decode cX12_bestAct 26 = .ok (.bipush (-2), 2) := dq_16 (dst 26 rd_prog_14_method_59_code_0 rfl) (by decide +kernel)
theorem dX12_bestAct_28 : decode cX12_bestAct 28 = .ok (.ireturn, 1) := dq_172 (dst 28 rd_prog_14_method_59_code_0 rfl)
theorem dX12_bestAct_29 : decode cX12_bestAct 29 = .ok (.aload_n 0, 1) := dq_42 (dst 29 rd_prog_14_method_59_code_0 rfl)
theorem dX12_bestAct_30 : decode cX12_bestAct 30 = .ok (.iload_n 1, 1) := dq_27 (dst 30 rd_prog_14_method_59_code_0 rfl)
theorem dX12_bestAct_31 : decode cX12_bestAct 31 = .ok (.invokevirtual 242, 3) := dq_182 (dst 31 rd_prog_14_method_59_code_0 rfl) rfl
theorem dX12_bestAct_34 : decode cX12_bestAct 34 = .ok (.aload_n 0, 1) := dq_42 (dst 2 rd_prog_14_method_59_code_1 rfl)
theorem dX12_bestAct_35 : decode cX12_bestAct 35 = .ok (.getfield 44, 3) := dq_180 (dst 3 rd_prog_14_method_59_code_1 rfl) rfl
theorem dX12_bestAct_38 : decode cX12_bestAct 38 = .ok (.iconst 3, 1) := dq_6 (dst 6 rd_prog_14_method_59_code_1 rfl)
theorem dX12_bestAct_39 : decode cX12_bestAct 39 = .ok (.iload_n 2, 1) := dq_28 (dst 7 rd_prog_14_method_59_code_1 rfl)
theorem dX12_bestAct_40 : decode cX12_bestAct 40 = .ok (.imul, 1) := dq_104 (dst 8 rd_prog_14_method_59_code_1 rfl)
theorem dX12_bestAct_41 : decode cX12_bestAct 41 = .ok (.iload_n 3, 1) := dq_29 (dst 9 rd_prog_14_method_59_code_1 rfl)
theorem dX12_bestAct_42 : decode cX12_bestAct 42 = .ok (.iadd, 1) := dq_96 (dst 10 rd_prog_14_method_59_code_1 rfl)
theorem dX12_bestAct_43 : decode cX12_bestAct 43 = .ok (.iaload, 1) := dq_46 (dst 11 rd_prog_14_method_59_code_1 rfl)
theorem dX12_bestAct_44 : decode cX12_bestAct 44 = .ok (.ireturn, 1) := dq_172 (dst 12 rd_prog_14_method_59_code_1 rfl)
theorem lf_X12_againstOf_1 : ∀ w ∈ ([Cond.fieldLink RX12 13 "StillInAugustModel" "house" "[I", Cond.fieldLink RX12 44 "StillInAugustModel" "bestActs" "[I", Cond.methodLink RX12 171 yX12_isHands, Cond.instanceMethod yX12_isHands, Cond.selects RX12 yX12_isHands yX12_isHands, Cond.initialized RX12, Cond.code yX12_isHands cX12_isHands 2 (some .boolean), Cond.constantLong RX12 158 (999), Cond.methodLink RX12 73 yX12_in, Cond.static yX12_in, Cond.code yX12_in cX12_in 6 (some .boolean), Cond.methodLink RX12 160 yX12_all, Cond.static yX12_all, Cond.code yX12_all cX12_all 1 (some .int)] : List Cond), w ∈ wsX12_againstOf := fun _ h => (List.mem_cons_of_mem _ (List.mem_append_left _ h))
theorem lf_X12_againstOf_2 : ∀ w ∈ wsX120, w ∈ wsX12_againstOf := fun _ h => (List.mem_cons_of_mem _ (List.mem_append_right _ h))
set_option maxRecDepth 20000 in
theorem ggX12_againstOf_X12_isHands : GoodIn wsX12_againstOf wsX12_isHands := (gd_cons (lf_X12_againstOf_1 _ (List.mem_of_getElem? (i := 6) rfl)) rfl (goodIn_app (gd_cons (lf_X12_againstOf_1 _ (List.mem_of_getElem? (i := 7) rfl)) rfl (gd_cons (lf_X12_againstOf_1 _ (List.mem_of_getElem? (i := 0) rfl)) rfl (gd_cons (lf_X12_againstOf_1 _ (List.mem_of_getElem? (i := 8) rfl)) rfl (gd_cons (lf_X12_againstOf_1 _ (List.mem_of_getElem? (i := 9) rfl)) rfl (gd_cons (lf_X12_againstOf_1 _ (List.mem_of_getElem? (i := 5) rfl)) rfl (gd_cons (lf_X12_againstOf_1 _ (List.mem_of_getElem? (i := 10) rfl)) rfl (gd_cons (lf_X12_againstOf_1 _ (List.mem_of_getElem? (i := 11) rfl)) rfl (gd_cons (lf_X12_againstOf_1 _ (List.mem_of_getElem? (i := 12) rfl)) rfl (gd_cons (lf_X12_againstOf_1 _ (List.mem_of_getElem? (i := 13) rfl)) rfl (gd_nil _)))))))))) (goodIn_sub lf_X12_againstOf_2 ga_wsX120)))
set_option maxRecDepth 20000 in
theorem gX12_againstOf_X12_isHands : GoodIn wsX12_againstOf (wsV RX12 171 RX12 yX12_isHands wsX12_isHands) := goodIn_app (gd_cons (lf_X12_againstOf_1 _ (List.mem_of_getElem? (i := 2) rfl)) rfl (gd_cons (lf_X12_againstOf_1 _ (List.mem_of_getElem? (i := 3) rfl)) rfl (gd_cons (lf_X12_againstOf_1 _ (List.mem_of_getElem? (i := 4) rfl)) rfl (gd_cons (lf_X12_againstOf_1 _ (List.mem_of_getElem? (i := 5) rfl)) rfl (gd_nil _))))) ggX12_againstOf_X12_isHands
set_option maxRecDepth 20000 in
theorem ggX12_againstOf_X12_all : GoodIn wsX12_againstOf wsX12_all := (gd_cons (lf_X12_againstOf_1 _ (List.mem_of_getElem? (i := 13) rfl)) rfl (gd_nil _))
set_option maxRecDepth 20000 in
theorem gX12_againstOf_X12_all : GoodIn wsX12_againstOf (va_wsS RX12 160 yX12_all wsX12_all) := goodIn_app (gd_cons (lf_X12_againstOf_1 _ (List.mem_of_getElem? (i := 11) rfl)) rfl (gd_cons (lf_X12_againstOf_1 _ (List.mem_of_getElem? (i := 12) rfl)) rfl (gd_cons (lf_X12_againstOf_1 _ (List.mem_of_getElem? (i := 5) rfl)) rfl (gd_nil _)))) ggX12_againstOf_X12_all
theorem dX12_againstOf_0 : decode cX12_againstOf 0 = .ok (.iconst 0, 1) := dq_3 (dst 0 rd_prog_14_method_60_code_0 rfl)
theorem dX12_againstOf_1 : decode cX12_againstOf 1 = .ok (.istore_n 3, 1) := dq_62 (dst 1 rd_prog_14_method_60_code_0 rfl)
theorem dX12_againstOf_2 : decode cX12_againstOf 2 = .ok (.iload_n 3, 1) := dq_29 (dst 2 rd_prog_14_method_60_code_0 rfl)
theorem dX12_againstOf_3 : decode cX12_againstOf 3 = .ok (.sipush 500, 3) := dq_17 (dst 3 rd_prog_14_method_60_code_0 rfl) (by decide +kernel)
theorem dX12_againstOf_6 : decode cX12_againstOf 6 = .ok (.if_icmp .ge 114, 3) := dq_162 (dst 6 rd_prog_14_method_60_code_0 rfl) (by decide +kernel)
theorem dX12_againstOf_9 : decode cX12_againstOf 9 = .ok (.aload_n 0, 1) := dq_42 (dst 9 rd_prog_14_method_60_code_0 rfl)
theorem dX12_againstOf_10 : decode cX12_againstOf 10 = .ok (.iload_n 3, 1) := dq_29 (dst 10 rd_prog_14_method_60_code_0 rfl)
theorem dX12_againstOf_11 : decode cX12_againstOf 11 = .ok (.invokevirtual 171, 3) := dq_182 (dst 11 rd_prog_14_method_60_code_0 rfl) rfl
theorem dX12_againstOf_14 : decode cX12_againstOf 14 = .ok (.ifCond .eq 100, 3) := dq_153 (dst 14 rd_prog_14_method_60_code_0 rfl) (by decide +kernel)
theorem dX12_againstOf_17 : decode cX12_againstOf 17 = .ok (.iload_n 2, 1) := dq_28 (dst 17 rd_prog_14_method_60_code_0 rfl)
theorem dX12_againstOf_18 : decode cX12_againstOf 18 = .ok (.iload_n 3, 1) := dq_29 (dst 18 rd_prog_14_method_60_code_0 rfl)
theorem dX12_againstOf_19 : decode cX12_againstOf 19 = .ok (.invokestatic 160, 3) := dq_184 (dst 19 rd_prog_14_method_60_code_0 rfl) rfl
theorem dX12_againstOf_22 : decode cX12_againstOf 22 = .ok (.isub, 1) := dq_100 (dst 22 rd_prog_14_method_60_code_0 rfl)
theorem dX12_againstOf_23 : decode cX12_againstOf 23 = .ok (.istore 4, 2) := dq_54 (dst 23 rd_prog_14_method_60_code_0 rfl) rfl
theorem dX12_againstOf_25 : decode cX12_againstOf 25 = .ok (.aload_n 0, 1) := dq_42 (dst 25 rd_prog_14_method_60_code_0 rfl)
theorem dX12_againstOf_26 : decode cX12_againstOf 26 = .ok (.getfield 13, 3) := dq_180 (dst 26 rd_prog_14_method_60_code_0 rfl) rfl
theorem dX12_againstOf_29 : decode cX12_againstOf 29 = .ok (.iconst 1, 1) := dq_4 (dst 29 rd_prog_14_method_60_code_0 rfl)
theorem dX12_againstOf_30 : decode cX12_againstOf 30 = .ok (.iaload, 1) := dq_46 (dst 30 rd_prog_14_method_60_code_0 rfl)
theorem dX12_againstOf_31 : decode cX12_againstOf 31 = .ok (.iload_n 3, 1) := dq_29 (dst 31 rd_prog_14_method_60_code_0 rfl)
theorem dX12_againstOf_32 : decode cX12_againstOf 32 = .ok (.invokestatic 160, 3) := dq_184 (dst 0 rd_prog_14_method_60_code_1 rfl) rfl
theorem dX12_againstOf_35 : decode cX12_againstOf 35 = .ok (.isub, 1) := dq_100 (dst 3 rd_prog_14_method_60_code_1 rfl)
theorem dX12_againstOf_36 : decode cX12_againstOf 36 = .ok (.istore 5, 2) := dq_54 (dst 4 rd_prog_14_method_60_code_1 rfl) rfl
theorem dX12_againstOf_38 : decode cX12_againstOf 38 = .ok (.iload 4, 2) := dq_21 (dst 6 rd_prog_14_method_60_code_1 rfl) rfl
theorem dX12_againstOf_40 : decode cX12_againstOf 40 = .ok (.aload_n 0, 1) := dq_42 (dst 8 rd_prog_14_method_60_code_1 rfl)
theorem dX12_againstOf_41 : decode cX12_againstOf 41 = .ok (.getfield 13, 3) := dq_180 (dst 9 rd_prog_14_method_60_code_1 rfl) rfl
theorem dX12_againstOf_44 : decode cX12_againstOf 44 = .ok (.bipush 15, 2) := dq_16 (dst 12 rd_prog_14_method_60_code_1 rfl) (by decide +kernel)
theorem dX12_againstOf_46 : decode cX12_againstOf 46 = .ok (.iload_n 1, 1) := dq_27 (dst 14 rd_prog_14_method_60_code_1 rfl)
theorem dX12_againstOf_47 : decode cX12_againstOf 47 = .ok (.iadd, 1) := dq_96 (dst 15 rd_prog_14_method_60_code_1 rfl)
theorem dX12_againstOf_48 : decode cX12_againstOf 48 = .ok (.iaload, 1) := dq_46 (dst 16 rd_prog_14_method_60_code_1 rfl)
theorem dX12_againstOf_49 : decode cX12_againstOf 49 = .ok (.if_icmp .ge 8, 3) := dq_162 (dst 17 rd_prog_14_method_60_code_1 rfl) (by decide +kernel)
theorem dX12_againstOf_52 : decode cX12_againstOf 52 = .ok (.iload 4, 2) := dq_21 (dst 20 rd_prog_14_method_60_code_1 rfl) rfl
theorem dX12_againstOf_54 : decode cX12_againstOf 54 = .ok (.goto 12, 3) := dq_167 (dst 22 rd_prog_14_method_60_code_1 rfl) (by decide +kernel)
theorem dX12_againstOf_57 : decode cX12_againstOf 57 = .ok (.aload_n 0, 1) := dq_42 (dst 25 rd_prog_14_method_60_code_1 rfl)
theorem dX12_againstOf_58 : decode cX12_againstOf 58 = .ok (.getfield 13, 3) := dq_180 (dst 26 rd_prog_14_method_60_code_1 rfl) rfl
theorem dX12_againstOf_61 : decode cX12_againstOf 61 = .ok (.bipush 15, 2) := dq_16 (dst 29 rd_prog_14_method_60_code_1 rfl) (by decide +kernel)
theorem dX12_againstOf_63 : decode cX12_againstOf 63 = .ok (.iload_n 1, 1) := dq_27 (dst 31 rd_prog_14_method_60_code_1 rfl)
theorem dX12_againstOf_64 : decode cX12_againstOf 64 = .ok (.iadd, 1) := dq_96 (dst 0 rd_prog_14_method_60_code_2 rfl)
theorem dX12_againstOf_65 : decode cX12_againstOf 65 = .ok (.iaload, 1) := dq_46 (dst 1 rd_prog_14_method_60_code_2 rfl)
theorem dX12_againstOf_66 : decode cX12_againstOf 66 = .ok (.istore 6, 2) := dq_54 (dst 2 rd_prog_14_method_60_code_2 rfl) rfl
theorem dX12_againstOf_68 : decode cX12_againstOf 68 = .ok (.iload 6, 2) := dq_21 (dst 4 rd_prog_14_method_60_code_2 rfl) rfl
theorem dX12_againstOf_70 : decode cX12_againstOf 70 = .ok (.iload 5, 2) := dq_21 (dst 6 rd_prog_14_method_60_code_2 rfl) rfl
theorem dX12_againstOf_72 : decode cX12_againstOf 72 = .ok (.if_icmp .ge 8, 3) := dq_162 (dst 8 rd_prog_14_method_60_code_2 rfl) (by decide +kernel)
theorem dX12_againstOf_75 : decode cX12_againstOf 75 = .ok (.iload 6, 2) := dq_21 (dst 11 rd_prog_14_method_60_code_2 rfl) rfl
theorem dX12_againstOf_77 : decode cX12_againstOf 77 = .ok (.goto 5, 3) := dq_167 (dst 13 rd_prog_14_method_60_code_2 rfl) (by decide +kernel)
theorem dX12_againstOf_80 : decode cX12_againstOf 80 = .ok (.iload 5, 2) := dq_21 (dst 16 rd_prog_14_method_60_code_2 rfl) rfl
theorem dX12_againstOf_82 : decode cX12_againstOf 82 = .ok (.istore 6, 2) := dq_54 (dst 18 rd_prog_14_method_60_code_2 rfl) rfl
theorem dX12_againstOf_84 : decode cX12_againstOf 84 = .ok (.aload_n 0, 1) := dq_42 (dst 20 rd_prog_14_method_60_code_2 rfl)
theorem dX12_againstOf_85 : decode cX12_againstOf 85 = .ok (.getfield 44, 3) := dq_180 (dst 21 rd_prog_14_method_60_code_2 rfl) rfl
theorem dX12_againstOf_88 : decode cX12_againstOf 88 = .ok (.iconst 3, 1) := dq_6 (dst 24 rd_prog_14_method_60_code_2 rfl)
theorem dX12_againstOf_89 : decode cX12_againstOf 89 = .ok (.iload_n 3, 1) := dq_29 (dst 25 rd_prog_14_method_60_code_2 rfl)
theorem dX12_againstOf_90 : decode cX12_againstOf 90 = .ok (.imul, 1) := dq_104 (dst 26 rd_prog_14_method_60_code_2 rfl)
theorem dX12_againstOf_91 : decode cX12_againstOf 91 = .ok (.iaload, 1) := dq_46 (dst 27 rd_prog_14_method_60_code_2 rfl)
theorem dX12_againstOf_92 : decode cX12_againstOf 92 = .ok (.bipush 100, 2) := dq_16 (dst 28 rd_prog_14_method_60_code_2 rfl) (by decide +kernel)
theorem dX12_againstOf_94 : decode cX12_againstOf 94 = .ok (.idiv, 1) := dq_108 (dst 30 rd_prog_14_method_60_code_2 rfl)
theorem dX12_againstOf_95 : decode cX12_againstOf 95 = .ok (.bipush 10, 2) := dq_16 (dst 31 rd_prog_14_method_60_code_2 rfl) (by decide +kernel)
theorem dX12_againstOf_97 : decode cX12_againstOf 97 = .ok (.irem, 1) := dq_112 (dst 1 rd_prog_14_method_60_code_3 rfl)
theorem dX12_againstOf_98 : decode cX12_againstOf 98 = .ok (.iload 6, 2) := dq_21 (dst 2 rd_prog_14_method_60_code_3 rfl) rfl
theorem dX12_againstOf_100 : decode cX12_againstOf 100 = .ok (.ifCond .le 8, 3) := dq_158 (dst 4 rd_prog_14_method_60_code_3 rfl) (by decide +kernel)
theorem dX12_againstOf_103 : decode cX12_againstOf 103 = .ok (.iload 6, 2) := dq_21 (dst 7 rd_prog_14_method_60_code_3 rfl) rfl
theorem dX12_againstOf_105 : decode cX12_againstOf 105 = .ok (.goto 4, 3) := dq_167 (dst 9 rd_prog_14_method_60_code_3 rfl) (by decide +kernel)
theorem dX12_againstOf_108 : decode cX12_againstOf 108 = .ok (.iconst 0, 1) := dq_3 (dst 12 rd_prog_14_method_60_code_3 rfl)
theorem dX12_againstOf_109 : decode cX12_againstOf 109 = .ok (.if_icmp .eq 5, 3) := dq_159 (dst 13 rd_prog_14_method_60_code_3 rfl) (by decide +kernel)
theorem dX12_againstOf_112 : decode cX12_againstOf 112 = .ok (.iload_n 3, 1) := dq_29 (dst 16 rd_prog_14_method_60_code_3 rfl)
theorem dX12_againstOf_113 : decode cX12_againstOf 113 = .ok (.ireturn, 1) := dq_172 (dst 17 rd_prog_14_method_60_code_3 rfl)
theorem dX12_againstOf_114 : decode cX12_againstOf 114 = .ok (.iinc 3 1, 3) := dq_132 (dst 18 rd_prog_14_method_60_code_3 rfl) rfl (by decide +kernel)
theorem dX12_againstOf_117 : decode cX12_againstOf 117 = .ok (.goto (-115), 3) := dq_167 (dst 21 rd_prog_14_method_60_code_3 rfl) (by decide +kernel)
theorem dX12_againstOf_120 : decode cX12_againstOf 120 = .ok (.bipush (-9), 2) := dq_16 (dst 24 rd_prog_14_method_60_code_3 rfl) (by decide +kernel)
theorem dX12_againstOf_122 : decode cX12_againstOf 122 = .ok (.ireturn, 1) := dq_172 (dst 26 rd_prog_14_method_60_code_3 rfl)
theorem lf_X12_shape_1 : ∀ w ∈ wsX12_shape_r1, w ∈ wsX12_shape := fun _ h => (List.mem_cons_of_mem _ (List.mem_append_left _ (List.mem_append_left _ h)))
theorem lf_X12_shape_2 : ∀ w ∈ wsX12_shape_r2, w ∈ wsX12_shape := fun _ h => (List.mem_cons_of_mem _ (List.mem_append_left _ (List.mem_append_right _ (List.mem_append_left _ h))))
theorem lf_X12_shape_3 : ∀ w ∈ wsX12_shape_r3, w ∈ wsX12_shape := fun _ h => (List.mem_cons_of_mem _ (List.mem_append_left _ (List.mem_append_right _ (List.mem_append_right _ (List.mem_append_left _ h)))))
theorem lf_X12_shape_4 : ∀ w ∈ wsX12_shape_r4, w ∈ wsX12_shape := fun _ h => (List.mem_cons_of_mem _ (List.mem_append_left _ (List.mem_append_right _ (List.mem_append_right _ (List.mem_append_right _ h)))))
theorem lf_X12_shape_5 : ∀ w ∈ wsX120, w ∈ wsX12_shape := fun _ h => (List.mem_cons_of_mem _ (List.mem_append_right _ h))
set_option maxRecDepth 20000 in
theorem ggX12_shape_X12_isWeek : GoodIn wsX12_shape wsX12_isWeek := (gd_cons (lf_X12_shape_1 _ (List.mem_of_getElem? (i := 4) rfl)) rfl (goodIn_app (gd_cons (lf_X12_shape_1 _ (List.mem_of_getElem? (i := 5) rfl)) rfl (gd_cons (lf_X12_shape_1 _ (List.mem_of_getElem? (i := 6) rfl)) rfl (gd_cons (lf_X12_shape_1 _ (List.mem_of_getElem? (i := 7) rfl)) rfl (gd_cons (lf_X12_shape_1 _ (List.mem_of_getElem? (i := 3) rfl)) rfl (gd_cons (lf_X12_shape_1 _ (List.mem_of_getElem? (i := 8) rfl)) rfl (gd_nil _)))))) (goodIn_sub lf_X12_shape_5 ga_wsX120)))
set_option maxRecDepth 20000 in
theorem gX12_shape_X12_isWeek : GoodIn wsX12_shape (wsV RX12 152 RX12 yX12_isWeek wsX12_isWeek) := goodIn_app (gd_cons (lf_X12_shape_1 _ (List.mem_of_getElem? (i := 0) rfl)) rfl (gd_cons (lf_X12_shape_1 _ (List.mem_of_getElem? (i := 1) rfl)) rfl (gd_cons (lf_X12_shape_1 _ (List.mem_of_getElem? (i := 2) rfl)) rfl (gd_cons (lf_X12_shape_1 _ (List.mem_of_getElem? (i := 3) rfl)) rfl (gd_nil _))))) ggX12_shape_X12_isWeek
set_option maxRecDepth 20000 in
theorem ggX12_shape_X12_layBest : GoodIn wsX12_shape wsX12_layBest := (gd_cons (lf_X12_shape_1 _ (List.mem_of_getElem? (i := 12) rfl)) rfl (goodIn_app (goodIn_app (gd_cons (lf_X12_shape_1 _ (List.mem_of_getElem? (i := 13) rfl)) rfl (gd_cons (lf_X12_shape_1 _ (List.mem_of_getElem? (i := 5) rfl)) rfl (gd_cons (lf_X12_shape_1 _ (List.mem_of_getElem? (i := 14) rfl)) rfl (gd_cons (lf_X12_shape_1 _ (List.mem_of_getElem? (i := 15) rfl)) rfl (gd_cons (lf_X12_shape_1 _ (List.mem_of_getElem? (i := 16) rfl)) rfl (gd_cons (lf_X12_shape_1 _ (List.mem_of_getElem? (i := 17) rfl)) rfl (gd_cons (lf_X12_shape_1 _ (List.mem_of_getElem? (i := 3) rfl)) rfl (gd_cons (lf_X12_shape_1 _ (List.mem_of_getElem? (i := 18) rfl)) rfl (gd_cons (lf_X12_shape_1 _ (List.mem_of_getElem? (i := 19) rfl)) rfl (gd_cons (lf_X12_shape_1 _ (List.mem_of_getElem? (i := 6) rfl)) rfl (gd_cons (lf_X12_shape_1 _ (List.mem_of_getElem? (i := 7) rfl)) rfl (gd_cons (lf_X12_shape_1 _ (List.mem_of_getElem? (i := 8) rfl)) rfl (gd_cons (lf_X12_shape_1 _ (List.mem_of_getElem? (i := 20) rfl)) rfl (gd_cons (lf_X12_shape_1 _ (List.mem_of_getElem? (i := 21) rfl)) rfl (gd_cons (lf_X12_shape_1 _ (List.mem_of_getElem? (i := 22) rfl)) rfl (gd_cons (lf_X12_shape_1 _ (List.mem_of_getElem? (i := 23) rfl)) rfl (gd_cons (lf_X12_shape_2 _ (List.mem_of_getElem? (i := 0) rfl)) rfl (gd_cons (lf_X12_shape_2 _ (List.mem_of_getElem? (i := 1) rfl)) rfl (gd_cons (lf_X12_shape_2 _ (List.mem_of_getElem? (i := 2) rfl)) rfl (gd_cons (lf_X12_shape_2 _ (List.mem_of_getElem? (i := 3) rfl)) rfl (gd_cons (lf_X12_shape_2 _ (List.mem_of_getElem? (i := 4) rfl)) rfl (gd_cons (lf_X12_shape_2 _ (List.mem_of_getElem? (i := 5) rfl)) rfl (gd_cons (lf_X12_shape_2 _ (List.mem_of_getElem? (i := 6) rfl)) rfl (gd_cons (lf_X12_shape_2 _ (List.mem_of_getElem? (i := 7) rfl)) rfl (gd_nil _))))))))))))))))))))))))) (goodIn_app (gd_cons (lf_X12_shape_2 _ (List.mem_of_getElem? (i := 8) rfl)) rfl (gd_cons (lf_X12_shape_2 _ (List.mem_of_getElem? (i := 9) rfl)) rfl (gd_cons (lf_X12_shape_2 _ (List.mem_of_getElem? (i := 10) rfl)) rfl (gd_cons (lf_X12_shape_2 _ (List.mem_of_getElem? (i := 11) rfl)) rfl (gd_cons (lf_X12_shape_2 _ (List.mem_of_getElem? (i := 12) rfl)) rfl (gd_cons (lf_X12_shape_2 _ (List.mem_of_getElem? (i := 13) rfl)) rfl (gd_cons (lf_X12_shape_2 _ (List.mem_of_getElem? (i := 14) rfl)) rfl (gd_cons (lf_X12_shape_2 _ (List.mem_of_getElem? (i := 15) rfl)) rfl (gd_cons (lf_X12_shape_2 _ (List.mem_of_getElem? (i := 16) rfl)) rfl (gd_cons (lf_X12_shape_2 _ (List.mem_of_getElem? (i := 17) rfl)) rfl (gd_cons (lf_X12_shape_2 _ (List.mem_of_getElem? (i := 18) rfl)) rfl (gd_cons (lf_X12_shape_2 _ (List.mem_of_getElem? (i := 19) rfl)) rfl (gd_cons (lf_X12_shape_2 _ (List.mem_of_getElem? (i := 20) rfl)) rfl (gd_cons (lf_X12_shape_2 _ (List.mem_of_getElem? (i := 21) rfl)) rfl (gd_cons (lf_X12_shape_2 _ (List.mem_of_getElem? (i := 22) rfl)) rfl (gd_cons (lf_X12_shape_2 _ (List.mem_of_getElem? (i := 23) rfl)) rfl (gd_cons (lf_X12_shape_3 _ (List.mem_of_getElem? (i := 0) rfl)) rfl (gd_cons (lf_X12_shape_3 _ (List.mem_of_getElem? (i := 1) rfl)) rfl (gd_cons (lf_X12_shape_3 _ (List.mem_of_getElem? (i := 2) rfl)) rfl (gd_cons (lf_X12_shape_3 _ (List.mem_of_getElem? (i := 3) rfl)) rfl (gd_cons (lf_X12_shape_3 _ (List.mem_of_getElem? (i := 4) rfl)) rfl (gd_cons (lf_X12_shape_3 _ (List.mem_of_getElem? (i := 5) rfl)) rfl (gd_cons (lf_X12_shape_3 _ (List.mem_of_getElem? (i := 6) rfl)) rfl (gd_cons (lf_X12_shape_3 _ (List.mem_of_getElem? (i := 7) rfl)) rfl (gd_nil _))))))))))))))))))))))))) (gd_cons (lf_X12_shape_3 _ (List.mem_of_getElem? (i := 8) rfl)) rfl (gd_cons (lf_X12_shape_3 _ (List.mem_of_getElem? (i := 9) rfl)) rfl (gd_cons (lf_X12_shape_3 _ (List.mem_of_getElem? (i := 10) rfl)) rfl (gd_cons (lf_X12_shape_3 _ (List.mem_of_getElem? (i := 11) rfl)) rfl (gd_cons (lf_X12_shape_3 _ (List.mem_of_getElem? (i := 12) rfl)) rfl (gd_cons (lf_X12_shape_3 _ (List.mem_of_getElem? (i := 13) rfl)) rfl (gd_cons (lf_X12_shape_3 _ (List.mem_of_getElem? (i := 14) rfl)) rfl (gd_cons (lf_X12_shape_3 _ (List.mem_of_getElem? (i := 15) rfl)) rfl (gd_cons (lf_X12_shape_3 _ (List.mem_of_getElem? (i := 16) rfl)) rfl (gd_cons (lf_X12_shape_3 _ (List.mem_of_getElem? (i := 17) rfl)) rfl (gd_cons (lf_X12_shape_3 _ (List.mem_of_getElem? (i := 18) rfl)) rfl (gd_cons (lf_X12_shape_3 _ (List.mem_of_getElem? (i := 19) rfl)) rfl (gd_cons (lf_X12_shape_3 _ (List.mem_of_getElem? (i := 20) rfl)) rfl (gd_cons (lf_X12_shape_3 _ (List.mem_of_getElem? (i := 21) rfl)) rfl (gd_cons (lf_X12_shape_3 _ (List.mem_of_getElem? (i := 22) rfl)) rfl (gd_cons (lf_X12_shape_3 _ (List.mem_of_getElem? (i := 23) rfl)) rfl (gd_cons (lf_X12_shape_4 _ (List.mem_of_getElem? (i := 0) rfl)) rfl (gd_cons (lf_X12_shape_4 _ (List.mem_of_getElem? (i := 1) rfl)) rfl (gd_nil _))))))))))))))))))))) (goodIn_sub lf_X12_shape_5 ga_wsX120)))
set_option maxRecDepth 20000 in
theorem gX12_shape_X12_layBest : GoodIn wsX12_shape (wsV RX12 242 RX12 yX12_layBest wsX12_layBest) := goodIn_app (gd_cons (lf_X12_shape_1 _ (List.mem_of_getElem? (i := 9) rfl)) rfl (gd_cons (lf_X12_shape_1 _ (List.mem_of_getElem? (i := 10) rfl)) rfl (gd_cons (lf_X12_shape_1 _ (List.mem_of_getElem? (i := 11) rfl)) rfl (gd_cons (lf_X12_shape_1 _ (List.mem_of_getElem? (i := 3) rfl)) rfl (gd_nil _))))) ggX12_shape_X12_layBest
set_option maxRecDepth 20000 in
theorem ggX12_shape_X12_againstOf : GoodIn wsX12_shape wsX12_againstOf := (gd_cons (lf_X12_shape_4 _ (List.mem_of_getElem? (i := 5) rfl)) rfl (goodIn_app (gd_cons (lf_X12_shape_1 _ (List.mem_of_getElem? (i := 5) rfl)) rfl (gd_cons (lf_X12_shape_2 _ (List.mem_of_getElem? (i := 12) rfl)) rfl (gd_cons (lf_X12_shape_1 _ (List.mem_of_getElem? (i := 15) rfl)) rfl (gd_cons (lf_X12_shape_1 _ (List.mem_of_getElem? (i := 16) rfl)) rfl (gd_cons (lf_X12_shape_1 _ (List.mem_of_getElem? (i := 17) rfl)) rfl (gd_cons (lf_X12_shape_1 _ (List.mem_of_getElem? (i := 3) rfl)) rfl (gd_cons (lf_X12_shape_1 _ (List.mem_of_getElem? (i := 18) rfl)) rfl (gd_cons (lf_X12_shape_1 _ (List.mem_of_getElem? (i := 19) rfl)) rfl (gd_cons (lf_X12_shape_1 _ (List.mem_of_getElem? (i := 6) rfl)) rfl (gd_cons (lf_X12_shape_1 _ (List.mem_of_getElem? (i := 7) rfl)) rfl (gd_cons (lf_X12_shape_1 _ (List.mem_of_getElem? (i := 8) rfl)) rfl (gd_cons (lf_X12_shape_1 _ (List.mem_of_getElem? (i := 20) rfl)) rfl (gd_cons (lf_X12_shape_1 _ (List.mem_of_getElem? (i := 21) rfl)) rfl (gd_cons (lf_X12_shape_1 _ (List.mem_of_getElem? (i := 22) rfl)) rfl (gd_nil _))))))))))))))) (goodIn_sub lf_X12_shape_5 ga_wsX120)))
set_option maxRecDepth 20000 in
theorem gX12_shape_X12_againstOf : GoodIn wsX12_shape (wsV RX12 245 RX12 yX12_againstOf wsX12_againstOf) := goodIn_app (gd_cons (lf_X12_shape_4 _ (List.mem_of_getElem? (i := 2) rfl)) rfl (gd_cons (lf_X12_shape_4 _ (List.mem_of_getElem? (i := 3) rfl)) rfl (gd_cons (lf_X12_shape_4 _ (List.mem_of_getElem? (i := 4) rfl)) rfl (gd_cons (lf_X12_shape_1 _ (List.mem_of_getElem? (i := 3) rfl)) rfl (gd_nil _))))) ggX12_shape_X12_againstOf
theorem dX12_shape_0 : decode cX12_shape 0 = .ok (.aload_n 0, 1) := dq_42 (dst 0 rd_prog_14_method_61_code_0 rfl)
theorem dX12_shape_1 : decode cX12_shape 1 = .ok (.iload_n 1, 1) := dq_27 (dst 1 rd_prog_14_method_61_code_0 rfl)
theorem dX12_shape_2 : decode cX12_shape 2 = .ok (.invokevirtual 152, 3) := dq_182 (dst 2 rd_prog_14_method_61_code_0 rfl) rfl
theorem dX12_shape_5 : decode cX12_shape 5 = .ok (.ifCond .ne 5, 3) := dq_154 (dst 5 rd_prog_14_method_61_code_0 rfl) (by decide +kernel)
theorem dX12_shape_8 : decode cX12_shape 8 = .ok (.iconst (-1), 1) := dq_2 (dst 8 rd_prog_14_method_61_code_0 rfl)
theorem dX12_shape_9 : decode cX12_shape 9 = .ok (.ireturn, 1) := dq_172 (dst 9 rd_prog_14_method_61_code_0 rfl)
theorem dX12_shape_10 : decode cX12_shape 10 = .ok (.aload_n 0, 1) := dq_42 (dst 10 rd_prog_14_method_61_code_0 rfl)
theorem dX12_shape_11 : decode cX12_shape 11 = .ok (.iload_n 1, 1) := dq_27 (dst 11 rd_prog_14_method_61_code_0 rfl)
theorem dX12_shape_12 : decode cX12_shape 12 = .ok (.invokevirtual 242, 3) := dq_182 (dst 12 rd_prog_14_method_61_code_0 rfl) rfl
theorem dX12_shape_15 : decode cX12_shape 15 = .ok (.iconst 0, 1) := dq_3 (dst 15 rd_prog_14_method_61_code_0 rfl)
theorem dX12_shape_16 : decode cX12_shape 16 = .ok (.istore_n 2, 1) := dq_61 (dst 16 rd_prog_14_method_61_code_0 rfl)
theorem dX12_shape_17 : decode cX12_shape 17 = .ok (.iload_n 2, 1) := dq_28 (dst 17 rd_prog_14_method_61_code_0 rfl)
theorem dX12_shape_18 : decode cX12_shape 18 = .ok (.iconst 5, 1) := dq_8 (dst 18 rd_prog_14_method_61_code_0 rfl)
theorem dX12_shape_19 : decode cX12_shape 19 = .ok (.if_icmp .ge 22, 3) := dq_162 (dst 19 rd_prog_14_method_61_code_0 rfl) (by decide +kernel)
theorem dX12_shape_22 : decode cX12_shape 22 = .ok (.aload_n 0, 1) := dq_42 (dst 22 rd_prog_14_method_61_code_0 rfl)
theorem dX12_shape_23 : decode cX12_shape 23 = .ok (.iload_n 1, 1) := dq_27 (dst 23 rd_prog_14_method_61_code_0 rfl)
theorem dX12_shape_24 : decode cX12_shape 24 = .ok (.iload_n 2, 1) := dq_28 (dst 24 rd_prog_14_method_61_code_0 rfl)
theorem dX12_shape_25 : decode cX12_shape 25 = .ok (.invokevirtual 245, 3) := dq_182 (dst 25 rd_prog_14_method_61_code_0 rfl) rfl
theorem dX12_shape_28 : decode cX12_shape 28 = .ok (.bipush (-9), 2) := dq_16 (dst 28 rd_prog_14_method_61_code_0 rfl) (by decide +kernel)
theorem dX12_shape_30 : decode cX12_shape 30 = .ok (.if_icmp .ne 5, 3) := dq_160 (dst 30 rd_prog_14_method_61_code_0 rfl) (by decide +kernel)
theorem dX12_shape_33 : decode cX12_shape 33 = .ok (.iload_n 2, 1) := dq_28 (dst 1 rd_prog_14_method_61_code_1 rfl)
theorem dX12_shape_34 : decode cX12_shape 34 = .ok (.ireturn, 1) := dq_172 (dst 2 rd_prog_14_method_61_code_1 rfl)
theorem dX12_shape_35 : decode cX12_shape 35 = .ok (.iinc 2 1, 3) := dq_132 (dst 3 rd_prog_14_method_61_code_1 rfl) rfl (by decide +kernel)
theorem dX12_shape_38 : decode cX12_shape 38 = .ok (.goto (-21), 3) := dq_167 (dst 6 rd_prog_14_method_61_code_1 rfl) (by decide +kernel)
theorem dX12_shape_41 : decode cX12_shape 41 = .ok (.bipush (-9), 2) := dq_16 (dst 9 rd_prog_14_method_61_code_1 rfl) (by decide +kernel)
theorem dX12_shape_43 : decode cX12_shape 43 = .ok (.ireturn, 1) := dq_172 (dst 11 rd_prog_14_method_61_code_1 rfl)
theorem lf_X12_against_1 : ∀ w ∈ wsX12_against_r1, w ∈ wsX12_against := fun _ h => (List.mem_cons_of_mem _ (List.mem_append_left _ (List.mem_append_left _ h)))
theorem lf_X12_against_2 : ∀ w ∈ wsX12_against_r2, w ∈ wsX12_against := fun _ h => (List.mem_cons_of_mem _ (List.mem_append_left _ (List.mem_append_right _ (List.mem_append_left _ h))))
theorem lf_X12_against_3 : ∀ w ∈ wsX12_against_r3, w ∈ wsX12_against := fun _ h => (List.mem_cons_of_mem _ (List.mem_append_left _ (List.mem_append_right _ (List.mem_append_right _ (List.mem_append_left _ h)))))
theorem lf_X12_against_4 : ∀ w ∈ wsX12_against_r4, w ∈ wsX12_against := fun _ h => (List.mem_cons_of_mem _ (List.mem_append_left _ (List.mem_append_right _ (List.mem_append_right _ (List.mem_append_right _ h)))))
theorem lf_X12_against_5 : ∀ w ∈ wsX120, w ∈ wsX12_against := fun _ h => (List.mem_cons_of_mem _ (List.mem_append_right _ h))
set_option maxRecDepth 20000 in
theorem ggX12_against_X12_isWeek : GoodIn wsX12_against wsX12_isWeek := (gd_cons (lf_X12_against_1 _ (List.mem_of_getElem? (i := 5) rfl)) rfl (goodIn_app (gd_cons (lf_X12_against_1 _ (List.mem_of_getElem? (i := 6) rfl)) rfl (gd_cons (lf_X12_against_1 _ (List.mem_of_getElem? (i := 7) rfl)) rfl (gd_cons (lf_X12_against_1 _ (List.mem_of_getElem? (i := 8) rfl)) rfl (gd_cons (lf_X12_against_1 _ (List.mem_of_getElem? (i := 4) rfl)) rfl (gd_cons (lf_X12_against_1 _ (List.mem_of_getElem? (i := 9) rfl)) rfl (gd_nil _)))))) (goodIn_sub lf_X12_against_5 ga_wsX120)))
set_option maxRecDepth 20000 in
theorem gX12_against_X12_isWeek : GoodIn wsX12_against (wsV RX12 152 RX12 yX12_isWeek wsX12_isWeek) := goodIn_app (gd_cons (lf_X12_against_1 _ (List.mem_of_getElem? (i := 1) rfl)) rfl (gd_cons (lf_X12_against_1 _ (List.mem_of_getElem? (i := 2) rfl)) rfl (gd_cons (lf_X12_against_1 _ (List.mem_of_getElem? (i := 3) rfl)) rfl (gd_cons (lf_X12_against_1 _ (List.mem_of_getElem? (i := 4) rfl)) rfl (gd_nil _))))) ggX12_against_X12_isWeek
set_option maxRecDepth 20000 in
theorem ggX12_against_X12_in : GoodIn wsX12_against wsX12_in := (gd_cons (lf_X12_against_1 _ (List.mem_of_getElem? (i := 9) rfl)) rfl (gd_nil _))
set_option maxRecDepth 20000 in
theorem gX12_against_X12_in : GoodIn wsX12_against (va_wsS RX12 73 yX12_in wsX12_in) := goodIn_app (gd_cons (lf_X12_against_1 _ (List.mem_of_getElem? (i := 7) rfl)) rfl (gd_cons (lf_X12_against_1 _ (List.mem_of_getElem? (i := 8) rfl)) rfl (gd_cons (lf_X12_against_1 _ (List.mem_of_getElem? (i := 4) rfl)) rfl (gd_nil _)))) ggX12_against_X12_in
set_option maxRecDepth 20000 in
theorem ggX12_against_X12_layBest : GoodIn wsX12_against wsX12_layBest := (gd_cons (lf_X12_against_1 _ (List.mem_of_getElem? (i := 13) rfl)) rfl (goodIn_app (goodIn_app (gd_cons (lf_X12_against_1 _ (List.mem_of_getElem? (i := 14) rfl)) rfl (gd_cons (lf_X12_against_1 _ (List.mem_of_getElem? (i := 6) rfl)) rfl (gd_cons (lf_X12_against_1 _ (List.mem_of_getElem? (i := 15) rfl)) rfl (gd_cons (lf_X12_against_1 _ (List.mem_of_getElem? (i := 16) rfl)) rfl (gd_cons (lf_X12_against_1 _ (List.mem_of_getElem? (i := 17) rfl)) rfl (gd_cons (lf_X12_against_1 _ (List.mem_of_getElem? (i := 18) rfl)) rfl (gd_cons (lf_X12_against_1 _ (List.mem_of_getElem? (i := 4) rfl)) rfl (gd_cons (lf_X12_against_1 _ (List.mem_of_getElem? (i := 19) rfl)) rfl (gd_cons (lf_X12_against_1 _ (List.mem_of_getElem? (i := 20) rfl)) rfl (gd_cons (lf_X12_against_1 _ (List.mem_of_getElem? (i := 7) rfl)) rfl (gd_cons (lf_X12_against_1 _ (List.mem_of_getElem? (i := 8) rfl)) rfl (gd_cons (lf_X12_against_1 _ (List.mem_of_getElem? (i := 9) rfl)) rfl (gd_cons (lf_X12_against_1 _ (List.mem_of_getElem? (i := 21) rfl)) rfl (gd_cons (lf_X12_against_1 _ (List.mem_of_getElem? (i := 22) rfl)) rfl (gd_cons (lf_X12_against_1 _ (List.mem_of_getElem? (i := 23) rfl)) rfl (gd_cons (lf_X12_against_2 _ (List.mem_of_getElem? (i := 0) rfl)) rfl (gd_cons (lf_X12_against_2 _ (List.mem_of_getElem? (i := 1) rfl)) rfl (gd_cons (lf_X12_against_2 _ (List.mem_of_getElem? (i := 2) rfl)) rfl (gd_cons (lf_X12_against_2 _ (List.mem_of_getElem? (i := 3) rfl)) rfl (gd_cons (lf_X12_against_2 _ (List.mem_of_getElem? (i := 4) rfl)) rfl (gd_cons (lf_X12_against_2 _ (List.mem_of_getElem? (i := 5) rfl)) rfl (gd_cons (lf_X12_against_2 _ (List.mem_of_getElem? (i := 6) rfl)) rfl (gd_cons (lf_X12_against_2 _ (List.mem_of_getElem? (i := 7) rfl)) rfl (gd_cons (lf_X12_against_2 _ (List.mem_of_getElem? (i := 8) rfl)) rfl (gd_nil _))))))))))))))))))))))))) (goodIn_app (gd_cons (lf_X12_against_2 _ (List.mem_of_getElem? (i := 9) rfl)) rfl (gd_cons (lf_X12_against_2 _ (List.mem_of_getElem? (i := 10) rfl)) rfl (gd_cons (lf_X12_against_2 _ (List.mem_of_getElem? (i := 11) rfl)) rfl (gd_cons (lf_X12_against_2 _ (List.mem_of_getElem? (i := 12) rfl)) rfl (gd_cons (lf_X12_against_2 _ (List.mem_of_getElem? (i := 13) rfl)) rfl (gd_cons (lf_X12_against_2 _ (List.mem_of_getElem? (i := 14) rfl)) rfl (gd_cons (lf_X12_against_2 _ (List.mem_of_getElem? (i := 15) rfl)) rfl (gd_cons (lf_X12_against_2 _ (List.mem_of_getElem? (i := 16) rfl)) rfl (gd_cons (lf_X12_against_2 _ (List.mem_of_getElem? (i := 17) rfl)) rfl (gd_cons (lf_X12_against_2 _ (List.mem_of_getElem? (i := 18) rfl)) rfl (gd_cons (lf_X12_against_2 _ (List.mem_of_getElem? (i := 19) rfl)) rfl (gd_cons (lf_X12_against_2 _ (List.mem_of_getElem? (i := 20) rfl)) rfl (gd_cons (lf_X12_against_2 _ (List.mem_of_getElem? (i := 21) rfl)) rfl (gd_cons (lf_X12_against_2 _ (List.mem_of_getElem? (i := 22) rfl)) rfl (gd_cons (lf_X12_against_2 _ (List.mem_of_getElem? (i := 23) rfl)) rfl (gd_cons (lf_X12_against_3 _ (List.mem_of_getElem? (i := 0) rfl)) rfl (gd_cons (lf_X12_against_3 _ (List.mem_of_getElem? (i := 1) rfl)) rfl (gd_cons (lf_X12_against_3 _ (List.mem_of_getElem? (i := 2) rfl)) rfl (gd_cons (lf_X12_against_3 _ (List.mem_of_getElem? (i := 3) rfl)) rfl (gd_cons (lf_X12_against_3 _ (List.mem_of_getElem? (i := 4) rfl)) rfl (gd_cons (lf_X12_against_3 _ (List.mem_of_getElem? (i := 5) rfl)) rfl (gd_cons (lf_X12_against_3 _ (List.mem_of_getElem? (i := 6) rfl)) rfl (gd_cons (lf_X12_against_3 _ (List.mem_of_getElem? (i := 7) rfl)) rfl (gd_cons (lf_X12_against_3 _ (List.mem_of_getElem? (i := 8) rfl)) rfl (gd_nil _))))))))))))))))))))))))) (gd_cons (lf_X12_against_3 _ (List.mem_of_getElem? (i := 9) rfl)) rfl (gd_cons (lf_X12_against_3 _ (List.mem_of_getElem? (i := 10) rfl)) rfl (gd_cons (lf_X12_against_3 _ (List.mem_of_getElem? (i := 11) rfl)) rfl (gd_cons (lf_X12_against_3 _ (List.mem_of_getElem? (i := 12) rfl)) rfl (gd_cons (lf_X12_against_3 _ (List.mem_of_getElem? (i := 13) rfl)) rfl (gd_cons (lf_X12_against_3 _ (List.mem_of_getElem? (i := 14) rfl)) rfl (gd_cons (lf_X12_against_3 _ (List.mem_of_getElem? (i := 15) rfl)) rfl (gd_cons (lf_X12_against_3 _ (List.mem_of_getElem? (i := 16) rfl)) rfl (gd_cons (lf_X12_against_3 _ (List.mem_of_getElem? (i := 17) rfl)) rfl (gd_cons (lf_X12_against_3 _ (List.mem_of_getElem? (i := 18) rfl)) rfl (gd_cons (lf_X12_against_3 _ (List.mem_of_getElem? (i := 19) rfl)) rfl (gd_cons (lf_X12_against_3 _ (List.mem_of_getElem? (i := 20) rfl)) rfl (gd_cons (lf_X12_against_3 _ (List.mem_of_getElem? (i := 21) rfl)) rfl (gd_cons (lf_X12_against_3 _ (List.mem_of_getElem? (i := 22) rfl)) rfl (gd_cons (lf_X12_against_3 _ (List.mem_of_getElem? (i := 23) rfl)) rfl (gd_cons (lf_X12_against_4 _ (List.mem_of_getElem? (i := 0) rfl)) rfl (gd_cons (lf_X12_against_4 _ (List.mem_of_getElem? (i := 1) rfl)) rfl (gd_cons (lf_X12_against_4 _ (List.mem_of_getElem? (i := 2) rfl)) rfl (gd_nil _))))))))))))))))))))) (goodIn_sub lf_X12_against_5 ga_wsX120)))
set_option maxRecDepth 20000 in
theorem gX12_against_X12_layBest : GoodIn wsX12_against (wsV RX12 242 RX12 yX12_layBest wsX12_layBest) := goodIn_app (gd_cons (lf_X12_against_1 _ (List.mem_of_getElem? (i := 10) rfl)) rfl (gd_cons (lf_X12_against_1 _ (List.mem_of_getElem? (i := 11) rfl)) rfl (gd_cons (lf_X12_against_1 _ (List.mem_of_getElem? (i := 12) rfl)) rfl (gd_cons (lf_X12_against_1 _ (List.mem_of_getElem? (i := 4) rfl)) rfl (gd_nil _))))) ggX12_against_X12_layBest
set_option maxRecDepth 20000 in
theorem ggX12_against_X12_againstOf : GoodIn wsX12_against wsX12_againstOf := (gd_cons (lf_X12_against_4 _ (List.mem_of_getElem? (i := 6) rfl)) rfl (goodIn_app (gd_cons (lf_X12_against_1 _ (List.mem_of_getElem? (i := 6) rfl)) rfl (gd_cons (lf_X12_against_2 _ (List.mem_of_getElem? (i := 13) rfl)) rfl (gd_cons (lf_X12_against_1 _ (List.mem_of_getElem? (i := 16) rfl)) rfl (gd_cons (lf_X12_against_1 _ (List.mem_of_getElem? (i := 17) rfl)) rfl (gd_cons (lf_X12_against_1 _ (List.mem_of_getElem? (i := 18) rfl)) rfl (gd_cons (lf_X12_against_1 _ (List.mem_of_getElem? (i := 4) rfl)) rfl (gd_cons (lf_X12_against_1 _ (List.mem_of_getElem? (i := 19) rfl)) rfl (gd_cons (lf_X12_against_1 _ (List.mem_of_getElem? (i := 20) rfl)) rfl (gd_cons (lf_X12_against_1 _ (List.mem_of_getElem? (i := 7) rfl)) rfl (gd_cons (lf_X12_against_1 _ (List.mem_of_getElem? (i := 8) rfl)) rfl (gd_cons (lf_X12_against_1 _ (List.mem_of_getElem? (i := 9) rfl)) rfl (gd_cons (lf_X12_against_1 _ (List.mem_of_getElem? (i := 21) rfl)) rfl (gd_cons (lf_X12_against_1 _ (List.mem_of_getElem? (i := 22) rfl)) rfl (gd_cons (lf_X12_against_1 _ (List.mem_of_getElem? (i := 23) rfl)) rfl (gd_nil _))))))))))))))) (goodIn_sub lf_X12_against_5 ga_wsX120)))
set_option maxRecDepth 20000 in
theorem gX12_against_X12_againstOf : GoodIn wsX12_against (wsV RX12 245 RX12 yX12_againstOf wsX12_againstOf) := goodIn_app (gd_cons (lf_X12_against_4 _ (List.mem_of_getElem? (i := 3) rfl)) rfl (gd_cons (lf_X12_against_4 _ (List.mem_of_getElem? (i := 4) rfl)) rfl (gd_cons (lf_X12_against_4 _ (List.mem_of_getElem? (i := 5) rfl)) rfl (gd_cons (lf_X12_against_1 _ (List.mem_of_getElem? (i := 4) rfl)) rfl (gd_nil _))))) ggX12_against_X12_againstOf
theorem dX12_against_0 : decode cX12_against 0 = .ok (.aload_n 0, 1) := dq_42 (dst 0 rd_prog_14_method_62_code_0 rfl)
theorem dX12_against_1 : decode cX12_against 1 = .ok (.iload_n 1, 1) := dq_27 (dst 1 rd_prog_14_method_62_code_0 rfl)
theorem dX12_against_2 : decode cX12_against 2 = .ok (.invokevirtual 152, 3) := dq_182 (dst 2 rd_prog_14_method_62_code_0 rfl) rfl
theorem dX12_against_5 : decode cX12_against 5 = .ok (.ifCond .ne 5, 3) := dq_154 (dst 5 rd_prog_14_method_62_code_0 rfl) (by decide +kernel)
theorem dX12_against_8 : decode cX12_against 8 = .ok (.iconst (-1), 1) := dq_2 (dst 8 rd_prog_14_method_62_code_0 rfl)
theorem dX12_against_9 : decode cX12_against 9 = .ok (.ireturn, 1) := dq_172 (dst 9 rd_prog_14_method_62_code_0 rfl)
theorem dX12_against_10 : decode cX12_against 10 = .ok (.iload_n 2, 1) := dq_28 (dst 10 rd_prog_14_method_62_code_0 rfl)
theorem dX12_against_11 : decode cX12_against 11 = .ok (.i2l, 1) := dq_133 (dst 11 rd_prog_14_method_62_code_0 rfl)
theorem dX12_against_12 : decode cX12_against 12 = .ok (.lconst 0, 1) := dq_9 (dst 12 rd_prog_14_method_62_code_0 rfl)
theorem dX12_against_13 : decode cX12_against 13 = .ok (.ldc2_w 69, 3) := dq_20 (dst 13 rd_prog_14_method_62_code_0 rfl) rfl
theorem dX12_against_16 : decode cX12_against 16 = .ok (.invokestatic 73, 3) := dq_184 (dst 16 rd_prog_14_method_62_code_0 rfl) rfl
theorem dX12_against_19 : decode cX12_against 19 = .ok (.ifCond .ne 6, 3) := dq_154 (dst 19 rd_prog_14_method_62_code_0 rfl) (by decide +kernel)
theorem dX12_against_22 : decode cX12_against 22 = .ok (.bipush (-2), 2) := dq_16 (dst 22 rd_prog_14_method_62_code_0 rfl) (by decide +kernel)
theorem dX12_against_24 : decode cX12_against 24 = .ok (.ireturn, 1) := dq_172 (dst 24 rd_prog_14_method_62_code_0 rfl)
theorem dX12_against_25 : decode cX12_against 25 = .ok (.aload_n 0, 1) := dq_42 (dst 25 rd_prog_14_method_62_code_0 rfl)
theorem dX12_against_26 : decode cX12_against 26 = .ok (.iload_n 1, 1) := dq_27 (dst 26 rd_prog_14_method_62_code_0 rfl)
theorem dX12_against_27 : decode cX12_against 27 = .ok (.invokevirtual 242, 3) := dq_182 (dst 27 rd_prog_14_method_62_code_0 rfl) rfl
theorem dX12_against_30 : decode cX12_against 30 = .ok (.aload_n 0, 1) := dq_42 (dst 30 rd_prog_14_method_62_code_0 rfl)
theorem dX12_against_31 : decode cX12_against 31 = .ok (.iload_n 1, 1) := dq_27 (dst 31 rd_prog_14_method_62_code_0 rfl)
theorem dX12_against_32 : decode cX12_against 32 = .ok (.iload_n 2, 1) := dq_28 (dst 0 rd_prog_14_method_62_code_1 rfl)
theorem dX12_against_33 : decode cX12_against 33 = .ok (.invokevirtual 245, 3) := dq_182 (dst 1 rd_prog_14_method_62_code_1 rfl) rfl
theorem dX12_against_36 : decode cX12_against 36 = .ok (.ireturn, 1) := dq_172 (dst 4 rd_prog_14_method_62_code_1 rfl)
theorem lf_X12_without_1 : ∀ w ∈ wsX12_without_r1, w ∈ wsX12_without := fun _ h => (List.mem_cons_of_mem _ (List.mem_append_left _ (List.mem_append_left _ h)))
theorem lf_X12_without_2 : ∀ w ∈ wsX12_without_r2, w ∈ wsX12_without := fun _ h => (List.mem_cons_of_mem _ (List.mem_append_left _ (List.mem_append_right _ (List.mem_append_left _ h))))
theorem lf_X12_without_3 : ∀ w ∈ wsX12_without_r3, w ∈ wsX12_without := fun _ h => (List.mem_cons_of_mem _ (List.mem_append_left _ (List.mem_append_right _ (List.mem_append_right _ (List.mem_append_left _ h)))))
theorem lf_X12_without_4 : ∀ w ∈ wsX12_without_r4, w ∈ wsX12_without := fun _ h => (List.mem_cons_of_mem _ (List.mem_append_left _ (List.mem_append_right _ (List.mem_append_right _ (List.mem_append_right _ h)))))
theorem lf_X12_without_5 : ∀ w ∈ wsX120, w ∈ wsX12_without := fun _ h => (List.mem_cons_of_mem _ (List.mem_append_right _ h))
set_option maxRecDepth 20000 in
theorem ggX12_without_X12_in : GoodIn wsX12_without wsX12_in := (gd_cons (lf_X12_without_1 _ (List.mem_of_getElem? (i := 7) rfl)) rfl (gd_nil _))
set_option maxRecDepth 20000 in
theorem gX12_without_X12_in : GoodIn wsX12_without (va_wsS RX12 73 yX12_in wsX12_in) := goodIn_app (gd_cons (lf_X12_without_1 _ (List.mem_of_getElem? (i := 4) rfl)) rfl (gd_cons (lf_X12_without_1 _ (List.mem_of_getElem? (i := 5) rfl)) rfl (gd_cons (lf_X12_without_1 _ (List.mem_of_getElem? (i := 6) rfl)) rfl (gd_nil _)))) ggX12_without_X12_in
set_option maxRecDepth 20000 in
theorem ggX12_without_X12_layBest : GoodIn wsX12_without wsX12_layBest := (gd_cons (lf_X12_without_1 _ (List.mem_of_getElem? (i := 11) rfl)) rfl (goodIn_app (goodIn_app (gd_cons (lf_X12_without_1 _ (List.mem_of_getElem? (i := 3) rfl)) rfl (gd_cons (lf_X12_without_1 _ (List.mem_of_getElem? (i := 2) rfl)) rfl (gd_cons (lf_X12_without_1 _ (List.mem_of_getElem? (i := 12) rfl)) rfl (gd_cons (lf_X12_without_1 _ (List.mem_of_getElem? (i := 13) rfl)) rfl (gd_cons (lf_X12_without_1 _ (List.mem_of_getElem? (i := 14) rfl)) rfl (gd_cons (lf_X12_without_1 _ (List.mem_of_getElem? (i := 15) rfl)) rfl (gd_cons (lf_X12_without_1 _ (List.mem_of_getElem? (i := 6) rfl)) rfl (gd_cons (lf_X12_without_1 _ (List.mem_of_getElem? (i := 16) rfl)) rfl (gd_cons (lf_X12_without_1 _ (List.mem_of_getElem? (i := 17) rfl)) rfl (gd_cons (lf_X12_without_1 _ (List.mem_of_getElem? (i := 4) rfl)) rfl (gd_cons (lf_X12_without_1 _ (List.mem_of_getElem? (i := 5) rfl)) rfl (gd_cons (lf_X12_without_1 _ (List.mem_of_getElem? (i := 7) rfl)) rfl (gd_cons (lf_X12_without_1 _ (List.mem_of_getElem? (i := 18) rfl)) rfl (gd_cons (lf_X12_without_1 _ (List.mem_of_getElem? (i := 19) rfl)) rfl (gd_cons (lf_X12_without_1 _ (List.mem_of_getElem? (i := 20) rfl)) rfl (gd_cons (lf_X12_without_1 _ (List.mem_of_getElem? (i := 21) rfl)) rfl (gd_cons (lf_X12_without_1 _ (List.mem_of_getElem? (i := 22) rfl)) rfl (gd_cons (lf_X12_without_1 _ (List.mem_of_getElem? (i := 23) rfl)) rfl (gd_cons (lf_X12_without_2 _ (List.mem_of_getElem? (i := 0) rfl)) rfl (gd_cons (lf_X12_without_2 _ (List.mem_of_getElem? (i := 1) rfl)) rfl (gd_cons (lf_X12_without_2 _ (List.mem_of_getElem? (i := 2) rfl)) rfl (gd_cons (lf_X12_without_2 _ (List.mem_of_getElem? (i := 3) rfl)) rfl (gd_cons (lf_X12_without_2 _ (List.mem_of_getElem? (i := 4) rfl)) rfl (gd_cons (lf_X12_without_2 _ (List.mem_of_getElem? (i := 5) rfl)) rfl (gd_nil _))))))))))))))))))))))))) (goodIn_app (gd_cons (lf_X12_without_2 _ (List.mem_of_getElem? (i := 6) rfl)) rfl (gd_cons (lf_X12_without_2 _ (List.mem_of_getElem? (i := 7) rfl)) rfl (gd_cons (lf_X12_without_2 _ (List.mem_of_getElem? (i := 8) rfl)) rfl (gd_cons (lf_X12_without_2 _ (List.mem_of_getElem? (i := 9) rfl)) rfl (gd_cons (lf_X12_without_2 _ (List.mem_of_getElem? (i := 10) rfl)) rfl (gd_cons (lf_X12_without_2 _ (List.mem_of_getElem? (i := 11) rfl)) rfl (gd_cons (lf_X12_without_2 _ (List.mem_of_getElem? (i := 12) rfl)) rfl (gd_cons (lf_X12_without_2 _ (List.mem_of_getElem? (i := 13) rfl)) rfl (gd_cons (lf_X12_without_2 _ (List.mem_of_getElem? (i := 14) rfl)) rfl (gd_cons (lf_X12_without_2 _ (List.mem_of_getElem? (i := 15) rfl)) rfl (gd_cons (lf_X12_without_2 _ (List.mem_of_getElem? (i := 16) rfl)) rfl (gd_cons (lf_X12_without_2 _ (List.mem_of_getElem? (i := 17) rfl)) rfl (gd_cons (lf_X12_without_2 _ (List.mem_of_getElem? (i := 18) rfl)) rfl (gd_cons (lf_X12_without_2 _ (List.mem_of_getElem? (i := 19) rfl)) rfl (gd_cons (lf_X12_without_2 _ (List.mem_of_getElem? (i := 20) rfl)) rfl (gd_cons (lf_X12_without_2 _ (List.mem_of_getElem? (i := 21) rfl)) rfl (gd_cons (lf_X12_without_2 _ (List.mem_of_getElem? (i := 22) rfl)) rfl (gd_cons (lf_X12_without_2 _ (List.mem_of_getElem? (i := 23) rfl)) rfl (gd_cons (lf_X12_without_3 _ (List.mem_of_getElem? (i := 0) rfl)) rfl (gd_cons (lf_X12_without_3 _ (List.mem_of_getElem? (i := 1) rfl)) rfl (gd_cons (lf_X12_without_3 _ (List.mem_of_getElem? (i := 2) rfl)) rfl (gd_cons (lf_X12_without_3 _ (List.mem_of_getElem? (i := 3) rfl)) rfl (gd_cons (lf_X12_without_3 _ (List.mem_of_getElem? (i := 4) rfl)) rfl (gd_cons (lf_X12_without_3 _ (List.mem_of_getElem? (i := 5) rfl)) rfl (gd_nil _))))))))))))))))))))))))) (gd_cons (lf_X12_without_3 _ (List.mem_of_getElem? (i := 6) rfl)) rfl (gd_cons (lf_X12_without_3 _ (List.mem_of_getElem? (i := 7) rfl)) rfl (gd_cons (lf_X12_without_3 _ (List.mem_of_getElem? (i := 8) rfl)) rfl (gd_cons (lf_X12_without_3 _ (List.mem_of_getElem? (i := 9) rfl)) rfl (gd_cons (lf_X12_without_3 _ (List.mem_of_getElem? (i := 10) rfl)) rfl (gd_cons (lf_X12_without_3 _ (List.mem_of_getElem? (i := 11) rfl)) rfl (gd_cons (lf_X12_without_3 _ (List.mem_of_getElem? (i := 12) rfl)) rfl (gd_cons (lf_X12_without_3 _ (List.mem_of_getElem? (i := 13) rfl)) rfl (gd_cons (lf_X12_without_3 _ (List.mem_of_getElem? (i := 14) rfl)) rfl (gd_cons (lf_X12_without_3 _ (List.mem_of_getElem? (i := 15) rfl)) rfl (gd_cons (lf_X12_without_3 _ (List.mem_of_getElem? (i := 16) rfl)) rfl (gd_cons (lf_X12_without_3 _ (List.mem_of_getElem? (i := 17) rfl)) rfl (gd_cons (lf_X12_without_3 _ (List.mem_of_getElem? (i := 18) rfl)) rfl (gd_cons (lf_X12_without_3 _ (List.mem_of_getElem? (i := 19) rfl)) rfl (gd_cons (lf_X12_without_3 _ (List.mem_of_getElem? (i := 20) rfl)) rfl (gd_cons (lf_X12_without_3 _ (List.mem_of_getElem? (i := 21) rfl)) rfl (gd_cons (lf_X12_without_3 _ (List.mem_of_getElem? (i := 22) rfl)) rfl (gd_cons (lf_X12_without_3 _ (List.mem_of_getElem? (i := 23) rfl)) rfl (gd_nil _))))))))))))))))))))) (goodIn_sub lf_X12_without_5 ga_wsX120)))
set_option maxRecDepth 20000 in
theorem gX12_without_X12_layBest : GoodIn wsX12_without (wsV RX12 242 RX12 yX12_layBest wsX12_layBest) := goodIn_app (gd_cons (lf_X12_without_1 _ (List.mem_of_getElem? (i := 8) rfl)) rfl (gd_cons (lf_X12_without_1 _ (List.mem_of_getElem? (i := 9) rfl)) rfl (gd_cons (lf_X12_without_1 _ (List.mem_of_getElem? (i := 10) rfl)) rfl (gd_cons (lf_X12_without_1 _ (List.mem_of_getElem? (i := 6) rfl)) rfl (gd_nil _))))) ggX12_without_X12_layBest
set_option maxRecDepth 20000 in
theorem ggX12_without_X12_parts : GoodIn wsX12_without wsX12_parts := (gd_cons (lf_X12_without_2 _ (List.mem_of_getElem? (i := 3) rfl)) rfl (gd_cons (lf_X12_without_2 _ (List.mem_of_getElem? (i := 4) rfl)) rfl (gd_nil _)))
set_option maxRecDepth 20000 in
theorem gX12_without_X12_parts : GoodIn wsX12_without (va_wsS RX12 214 yX12_parts wsX12_parts) := goodIn_app (gd_cons (lf_X12_without_2 _ (List.mem_of_getElem? (i := 1) rfl)) rfl (gd_cons (lf_X12_without_2 _ (List.mem_of_getElem? (i := 2) rfl)) rfl (gd_cons (lf_X12_without_1 _ (List.mem_of_getElem? (i := 6) rfl)) rfl (gd_nil _)))) ggX12_without_X12_parts
set_option maxRecDepth 20000 in
theorem ggX12_without_X12_told : GoodIn wsX12_without wsX12_told := (gd_cons (lf_X12_without_4 _ (List.mem_of_getElem? (i := 2) rfl)) rfl (gd_cons (lf_X12_without_4 _ (List.mem_of_getElem? (i := 3) rfl)) rfl (gd_cons (lf_X12_without_4 _ (List.mem_of_getElem? (i := 4) rfl)) rfl (gd_cons (lf_X12_without_1 _ (List.mem_of_getElem? (i := 6) rfl)) rfl (gd_cons (lf_X12_without_4 _ (List.mem_of_getElem? (i := 5) rfl)) rfl (gd_nil _))))))
set_option maxRecDepth 20000 in
theorem gX12_without_X12_told : GoodIn wsX12_without (va_wsS RX12 202 yX12_told wsX12_told) := goodIn_app (gd_cons (lf_X12_without_4 _ (List.mem_of_getElem? (i := 0) rfl)) rfl (gd_cons (lf_X12_without_4 _ (List.mem_of_getElem? (i := 1) rfl)) rfl (gd_cons (lf_X12_without_1 _ (List.mem_of_getElem? (i := 6) rfl)) rfl (gd_nil _)))) ggX12_without_X12_told
theorem dX12_without_0 : decode cX12_without 0 = .ok (.iload_n 1, 1) := dq_27 (dst 0 rd_prog_14_method_63_code_0 rfl)
theorem dX12_without_1 : decode cX12_without 1 = .ok (.i2l, 1) := dq_133 (dst 1 rd_prog_14_method_63_code_0 rfl)
theorem dX12_without_2 : decode cX12_without 2 = .ok (.lconst 0, 1) := dq_9 (dst 2 rd_prog_14_method_63_code_0 rfl)
theorem dX12_without_3 : decode cX12_without 3 = .ok (.ldc2_w 77, 3) := dq_20 (dst 3 rd_prog_14_method_63_code_0 rfl) rfl
theorem dX12_without_6 : decode cX12_without 6 = .ok (.invokestatic 73, 3) := dq_184 (dst 6 rd_prog_14_method_63_code_0 rfl) rfl
theorem dX12_without_9 : decode cX12_without 9 = .ok (.ifCond .ne 7, 3) := dq_154 (dst 9 rd_prog_14_method_63_code_0 rfl) (by decide +kernel)
theorem dX12_without_12 : decode cX12_without 12 = .ok (.ldc2_w 206, 3) := dq_20 (dst 12 rd_prog_14_method_63_code_0 rfl) rfl
theorem dX12_without_15 : decode cX12_without 15 = .ok (.lreturn, 1) := dq_173 (dst 15 rd_prog_14_method_63_code_0 rfl)
theorem dX12_without_16 : decode cX12_without 16 = .ok (.aload_n 0, 1) := dq_42 (dst 16 rd_prog_14_method_63_code_0 rfl)
theorem dX12_without_17 : decode cX12_without 17 = .ok (.getfield 13, 3) := dq_180 (dst 17 rd_prog_14_method_63_code_0 rfl) rfl
theorem dX12_without_20 : decode cX12_without 20 = .ok (.iconst 4, 1) := dq_7 (dst 20 rd_prog_14_method_63_code_0 rfl)
theorem dX12_without_21 : decode cX12_without 21 = .ok (.iaload, 1) := dq_46 (dst 21 rd_prog_14_method_63_code_0 rfl)
theorem dX12_without_22 : decode cX12_without 22 = .ok (.istore_n 3, 1) := dq_62 (dst 22 rd_prog_14_method_63_code_0 rfl)
theorem dX12_without_23 : decode cX12_without 23 = .ok (.aload_n 0, 1) := dq_42 (dst 23 rd_prog_14_method_63_code_0 rfl)
theorem dX12_without_24 : decode cX12_without 24 = .ok (.getfield 13, 3) := dq_180 (dst 24 rd_prog_14_method_63_code_0 rfl) rfl
theorem dX12_without_27 : decode cX12_without 27 = .ok (.iconst 5, 1) := dq_8 (dst 27 rd_prog_14_method_63_code_0 rfl)
theorem dX12_without_28 : decode cX12_without 28 = .ok (.iaload, 1) := dq_46 (dst 28 rd_prog_14_method_63_code_0 rfl)
theorem dX12_without_29 : decode cX12_without 29 = .ok (.istore 4, 2) := dq_54 (dst 29 rd_prog_14_method_63_code_0 rfl) rfl
theorem dX12_without_31 : decode cX12_without 31 = .ok (.aload_n 0, 1) := dq_42 (dst 31 rd_prog_14_method_63_code_0 rfl)
theorem dX12_without_32 : decode cX12_without 32 = .ok (.getfield 13, 3) := dq_180 (dst 0 rd_prog_14_method_63_code_1 rfl) rfl
theorem dX12_without_35 : decode cX12_without 35 = .ok (.bipush 6, 2) := dq_16 (dst 3 rd_prog_14_method_63_code_1 rfl) (by decide +kernel)
theorem dX12_without_37 : decode cX12_without 37 = .ok (.iaload, 1) := dq_46 (dst 5 rd_prog_14_method_63_code_1 rfl)
theorem dX12_without_38 : decode cX12_without 38 = .ok (.istore 5, 2) := dq_54 (dst 6 rd_prog_14_method_63_code_1 rfl) rfl
theorem dX12_without_40 : decode cX12_without 40 = .ok (.aload_n 0, 1) := dq_42 (dst 8 rd_prog_14_method_63_code_1 rfl)
theorem dX12_without_41 : decode cX12_without 41 = .ok (.getfield 13, 3) := dq_180 (dst 9 rd_prog_14_method_63_code_1 rfl) rfl
theorem dX12_without_44 : decode cX12_without 44 = .ok (.bipush 7, 2) := dq_16 (dst 12 rd_prog_14_method_63_code_1 rfl) (by decide +kernel)
theorem dX12_without_46 : decode cX12_without 46 = .ok (.iaload, 1) := dq_46 (dst 14 rd_prog_14_method_63_code_1 rfl)
theorem dX12_without_47 : decode cX12_without 47 = .ok (.istore 6, 2) := dq_54 (dst 15 rd_prog_14_method_63_code_1 rfl) rfl
theorem dX12_without_49 : decode cX12_without 49 = .ok (.aload_n 0, 1) := dq_42 (dst 17 rd_prog_14_method_63_code_1 rfl)
theorem dX12_without_50 : decode cX12_without 50 = .ok (.getfield 13, 3) := dq_180 (dst 18 rd_prog_14_method_63_code_1 rfl) rfl
theorem dX12_without_53 : decode cX12_without 53 = .ok (.iconst 4, 1) := dq_7 (dst 21 rd_prog_14_method_63_code_1 rfl)
theorem dX12_without_54 : decode cX12_without 54 = .ok (.iload_n 1, 1) := dq_27 (dst 22 rd_prog_14_method_63_code_1 rfl)
theorem dX12_without_55 : decode cX12_without 55 = .ok (.iconst 1, 1) := dq_4 (dst 23 rd_prog_14_method_63_code_1 rfl)
theorem dX12_without_56 : decode cX12_without 56 = .ok (.iand, 1) := dq_126 (dst 24 rd_prog_14_method_63_code_1 rfl)
theorem dX12_without_57 : decode cX12_without 57 = .ok (.iconst 1, 1) := dq_4 (dst 25 rd_prog_14_method_63_code_1 rfl)
theorem dX12_without_58 : decode cX12_without 58 = .ok (.if_icmp .ne 8, 3) := dq_160 (dst 26 rd_prog_14_method_63_code_1 rfl) (by decide +kernel)
theorem dX12_without_61 : decode cX12_without 61 = .ok (.bipush (-9), 2) := dq_16 (dst 29 rd_prog_14_method_63_code_1 rfl) (by decide +kernel)
theorem dX12_without_63 : decode cX12_without 63 = .ok (.goto 4, 3) := dq_167 (dst 31 rd_prog_14_method_63_code_1 rfl) (by decide +kernel)
theorem dX12_without_66 : decode cX12_without 66 = .ok (.iload_n 3, 1) := dq_29 (dst 2 rd_prog_14_method_63_code_2 rfl)
theorem dX12_without_67 : decode cX12_without 67 = .ok (.iastore, 1) := dq_79 (dst 3 rd_prog_14_method_63_code_2 rfl)
theorem dX12_without_68 : decode cX12_without 68 = .ok (.aload_n 0, 1) := dq_42 (dst 4 rd_prog_14_method_63_code_2 rfl)
theorem dX12_without_69 : decode cX12_without 69 = .ok (.getfield 13, 3) := dq_180 (dst 5 rd_prog_14_method_63_code_2 rfl) rfl
theorem dX12_without_72 : decode cX12_without 72 = .ok (.iconst 5, 1) := dq_8 (dst 8 rd_prog_14_method_63_code_2 rfl)
theorem dX12_without_73 : decode cX12_without 73 = .ok (.iload_n 1, 1) := dq_27 (dst 9 rd_prog_14_method_63_code_2 rfl)
theorem dX12_without_74 : decode cX12_without 74 = .ok (.iconst 2, 1) := dq_5 (dst 10 rd_prog_14_method_63_code_2 rfl)
theorem dX12_without_75 : decode cX12_without 75 = .ok (.iand, 1) := dq_126 (dst 11 rd_prog_14_method_63_code_2 rfl)
theorem dX12_without_76 : decode cX12_without 76 = .ok (.iconst 2, 1) := dq_5 (dst 12 rd_prog_14_method_63_code_2 rfl)
theorem dX12_without_77 : decode cX12_without 77 = .ok (.if_icmp .ne 8, 3) := dq_160 (dst 13 rd_prog_14_method_63_code_2 rfl) (by decide +kernel)
theorem dX12_without_80 : decode cX12_without 80 = .ok (.bipush (-9), 2) := dq_16 (dst 16 rd_prog_14_method_63_code_2 rfl) (by decide +kernel)
theorem dX12_without_82 : decode cX12_without 82 = .ok (.goto 5, 3) := dq_167 (dst 18 rd_prog_14_method_63_code_2 rfl) (by decide +kernel)
theorem dX12_without_85 : decode cX12_without 85 = .ok (.iload 4, 2) := dq_21 (dst 21 rd_prog_14_method_63_code_2 rfl) rfl
theorem dX12_without_87 : decode cX12_without 87 = .ok (.iastore, 1) := dq_79 (dst 23 rd_prog_14_method_63_code_2 rfl)
theorem dX12_without_88 : decode cX12_without 88 = .ok (.aload_n 0, 1) := dq_42 (dst 24 rd_prog_14_method_63_code_2 rfl)
theorem dX12_without_89 : decode cX12_without 89 = .ok (.getfield 13, 3) := dq_180 (dst 25 rd_prog_14_method_63_code_2 rfl) rfl
theorem dX12_without_92 : decode cX12_without 92 = .ok (.bipush 6, 2) := dq_16 (dst 28 rd_prog_14_method_63_code_2 rfl) (by decide +kernel)
theorem dX12_without_94 : decode cX12_without 94 = .ok (.iload_n 1, 1) := dq_27 (dst 30 rd_prog_14_method_63_code_2 rfl)
theorem dX12_without_95 : decode cX12_without 95 = .ok (.iconst 4, 1) := dq_7 (dst 31 rd_prog_14_method_63_code_2 rfl)
theorem dX12_without_96 : decode cX12_without 96 = .ok (.iand, 1) := dq_126 (dst 0 rd_prog_14_method_63_code_3 rfl)
theorem dX12_without_97 : decode cX12_without 97 = .ok (.iconst 4, 1) := dq_7 (dst 1 rd_prog_14_method_63_code_3 rfl)
theorem dX12_without_98 : decode cX12_without 98 = .ok (.if_icmp .ne 8, 3) := dq_160 (dst 2 rd_prog_14_method_63_code_3 rfl) (by decide +kernel)
theorem dX12_without_101 : decode cX12_without 101 = .ok (.bipush (-9), 2) := dq_16 (dst 5 rd_prog_14_method_63_code_3 rfl) (by decide +kernel)
theorem dX12_without_103 : decode cX12_without 103 = .ok (.goto 5, 3) := dq_167 (dst 7 rd_prog_14_method_63_code_3 rfl) (by decide +kernel)
theorem dX12_without_106 : decode cX12_without 106 = .ok (.iload 5, 2) := dq_21 (dst 10 rd_prog_14_method_63_code_3 rfl) rfl
theorem dX12_without_108 : decode cX12_without 108 = .ok (.iastore, 1) := dq_79 (dst 12 rd_prog_14_method_63_code_3 rfl)
theorem dX12_without_109 : decode cX12_without 109 = .ok (.aload_n 0, 1) := dq_42 (dst 13 rd_prog_14_method_63_code_3 rfl)
theorem dX12_without_110 : decode cX12_without 110 = .ok (.getfield 13, 3) := dq_180 (dst 14 rd_prog_14_method_63_code_3 rfl) rfl
theorem dX12_without_113 : decode cX12_without 113 = .ok (.bipush 7, 2) := dq_16 (dst 17 rd_prog_14_method_63_code_3 rfl) (by decide +kernel)
theorem dX12_without_115 : decode cX12_without 115 = .ok (.iload_n 1, 1) := dq_27 (dst 19 rd_prog_14_method_63_code_3 rfl)
theorem dX12_without_116 : decode cX12_without 116 = .ok (.bipush 8, 2) := dq_16 (dst 20 rd_prog_14_method_63_code_3 rfl) (by decide +kernel)
theorem dX12_without_118 : decode cX12_without 118 = .ok (.iand, 1) := dq_126 (dst 22 rd_prog_14_method_63_code_3 rfl)
theorem dX12_without_119 : decode cX12_without 119 = .ok (.bipush 8, 2) := dq_16 (dst 23 rd_prog_14_method_63_code_3 rfl) (by decide +kernel)
theorem dX12_without_121 : decode cX12_without 121 = .ok (.if_icmp .ne 8, 3) := dq_160 (dst 25 rd_prog_14_method_63_code_3 rfl) (by decide +kernel)
theorem dX12_without_124 : decode cX12_without 124 = .ok (.bipush (-9), 2) := dq_16 (dst 28 rd_prog_14_method_63_code_3 rfl) (by decide +kernel)
theorem dX12_without_126 : decode cX12_without 126 = .ok (.goto 5, 3) := dq_167 (dst 30 rd_prog_14_method_63_code_3 rfl) (by decide +kernel)
theorem dX12_without_129 : decode cX12_without 129 = .ok (.iload 6, 2) := dq_21 (dst 1 rd_prog_14_method_63_code_4 rfl) rfl
theorem dX12_without_131 : decode cX12_without 131 = .ok (.iastore, 1) := dq_79 (dst 3 rd_prog_14_method_63_code_4 rfl)
theorem dX12_without_132 : decode cX12_without 132 = .ok (.aload_n 0, 1) := dq_42 (dst 4 rd_prog_14_method_63_code_4 rfl)
theorem dX12_without_133 : decode cX12_without 133 = .ok (.iconst 0, 1) := dq_3 (dst 5 rd_prog_14_method_63_code_4 rfl)
theorem dX12_without_134 : decode cX12_without 134 = .ok (.invokevirtual 242, 3) := dq_182 (dst 6 rd_prog_14_method_63_code_4 rfl) rfl
theorem dX12_without_137 : decode cX12_without 137 = .ok (.aload_n 0, 1) := dq_42 (dst 9 rd_prog_14_method_63_code_4 rfl)
theorem dX12_without_138 : decode cX12_without 138 = .ok (.getfield 13, 3) := dq_180 (dst 10 rd_prog_14_method_63_code_4 rfl) rfl
theorem dX12_without_141 : decode cX12_without 141 = .ok (.iconst 4, 1) := dq_7 (dst 13 rd_prog_14_method_63_code_4 rfl)
theorem dX12_without_142 : decode cX12_without 142 = .ok (.iload_n 3, 1) := dq_29 (dst 14 rd_prog_14_method_63_code_4 rfl)
theorem dX12_without_143 : decode cX12_without 143 = .ok (.iastore, 1) := dq_79 (dst 15 rd_prog_14_method_63_code_4 rfl)
theorem dX12_without_144 : decode cX12_without 144 = .ok (.aload_n 0, 1) := dq_42 (dst 16 rd_prog_14_method_63_code_4 rfl)
theorem dX12_without_145 : decode cX12_without 145 = .ok (.getfield 13, 3) := dq_180 (dst 17 rd_prog_14_method_63_code_4 rfl) rfl
theorem dX12_without_148 : decode cX12_without 148 = .ok (.iconst 5, 1) := dq_8 (dst 20 rd_prog_14_method_63_code_4 rfl)
theorem dX12_without_149 : decode cX12_without 149 = .ok (.iload 4, 2) := dq_21 (dst 21 rd_prog_14_method_63_code_4 rfl) rfl
theorem dX12_without_151 : decode cX12_without 151 = .ok (.iastore, 1) := dq_79 (dst 23 rd_prog_14_method_63_code_4 rfl)
theorem dX12_without_152 : decode cX12_without 152 = .ok (.aload_n 0, 1) := dq_42 (dst 24 rd_prog_14_method_63_code_4 rfl)
theorem dX12_without_153 : decode cX12_without 153 = .ok (.getfield 13, 3) := dq_180 (dst 25 rd_prog_14_method_63_code_4 rfl) rfl
theorem dX12_without_156 : decode cX12_without 156 = .ok (.bipush 6, 2) := dq_16 (dst 28 rd_prog_14_method_63_code_4 rfl) (by decide +kernel)
theorem dX12_without_158 : decode cX12_without 158 = .ok (.iload 5, 2) := dq_21 (dst 30 rd_prog_14_method_63_code_4 rfl) rfl
theorem dX12_without_160 : decode cX12_without 160 = .ok (.iastore, 1) := dq_79 (dst 0 rd_prog_14_method_63_code_5 rfl)
theorem dX12_without_161 : decode cX12_without 161 = .ok (.aload_n 0, 1) := dq_42 (dst 1 rd_prog_14_method_63_code_5 rfl)
theorem dX12_without_162 : decode cX12_without 162 = .ok (.getfield 13, 3) := dq_180 (dst 2 rd_prog_14_method_63_code_5 rfl) rfl
theorem dX12_without_165 : decode cX12_without 165 = .ok (.bipush 7, 2) := dq_16 (dst 5 rd_prog_14_method_63_code_5 rfl) (by decide +kernel)
theorem dX12_without_167 : decode cX12_without 167 = .ok (.iload 6, 2) := dq_21 (dst 7 rd_prog_14_method_63_code_5 rfl) rfl
theorem dX12_without_169 : decode cX12_without 169 = .ok (.iastore, 1) := dq_79 (dst 9 rd_prog_14_method_63_code_5 rfl)
theorem dX12_without_170 : decode cX12_without 170 = .ok (.aload_n 0, 1) := dq_42 (dst 10 rd_prog_14_method_63_code_5 rfl)
theorem dX12_without_171 : decode cX12_without 171 = .ok (.getfield 38, 3) := dq_180 (dst 11 rd_prog_14_method_63_code_5 rfl) rfl
theorem dX12_without_174 : decode cX12_without 174 = .ok (.iconst 0, 1) := dq_3 (dst 14 rd_prog_14_method_63_code_5 rfl)
theorem dX12_without_175 : decode cX12_without 175 = .ok (.laload, 1) := dq_47 (dst 15 rd_prog_14_method_63_code_5 rfl)
theorem dX12_without_176 : decode cX12_without 176 = .ok (.aload_n 0, 1) := dq_42 (dst 16 rd_prog_14_method_63_code_5 rfl)
theorem dX12_without_177 : decode cX12_without 177 = .ok (.getfield 13, 3) := dq_180 (dst 17 rd_prog_14_method_63_code_5 rfl) rfl
theorem dX12_without_180 : decode cX12_without 180 = .ok (.iconst 0, 1) := dq_3 (dst 20 rd_prog_14_method_63_code_5 rfl)
theorem dX12_without_181 : decode cX12_without 181 = .ok (.iaload, 1) := dq_46 (dst 21 rd_prog_14_method_63_code_5 rfl)
theorem dX12_without_182 : decode cX12_without 182 = .ok (.invokestatic 214, 3) := dq_184 (dst 22 rd_prog_14_method_63_code_5 rfl) rfl
theorem dX12_without_185 : decode cX12_without 185 = .ok (.iload_n 2, 1) := dq_28 (dst 25 rd_prog_14_method_63_code_5 rfl)
theorem dX12_without_186 : decode cX12_without 186 = .ok (.invokestatic 202, 3) := dq_184 (dst 26 rd_prog_14_method_63_code_5 rfl) rfl
theorem dX12_without_189 : decode cX12_without 189 = .ok (.lreturn, 1) := dq_173 (dst 29 rd_prog_14_method_63_code_5 rfl)
theorem lf_X12_act_1 : ∀ w ∈ wsX12_act_r1, w ∈ wsX12_act := fun _ h => (List.mem_cons_of_mem _ (List.mem_append_left _ (List.mem_append_left _ h)))
theorem lf_X12_act_2 : ∀ w ∈ wsX12_act_r2, w ∈ wsX12_act := fun _ h => (List.mem_cons_of_mem _ (List.mem_append_left _ (List.mem_append_right _ h)))
theorem lf_X12_act_3 : ∀ w ∈ wsX120, w ∈ wsX12_act := fun _ h => (List.mem_cons_of_mem _ (List.mem_append_right _ h))
set_option maxRecDepth 20000 in
theorem ggX12_act_X12_isWeek : GoodIn wsX12_act wsX12_isWeek := (gd_cons (lf_X12_act_1 _ (List.mem_of_getElem? (i := 7) rfl)) rfl (goodIn_app (gd_cons (lf_X12_act_1 _ (List.mem_of_getElem? (i := 8) rfl)) rfl (gd_cons (lf_X12_act_1 _ (List.mem_of_getElem? (i := 9) rfl)) rfl (gd_cons (lf_X12_act_1 _ (List.mem_of_getElem? (i := 10) rfl)) rfl (gd_cons (lf_X12_act_1 _ (List.mem_of_getElem? (i := 6) rfl)) rfl (gd_cons (lf_X12_act_1 _ (List.mem_of_getElem? (i := 11) rfl)) rfl (gd_nil _)))))) (goodIn_sub lf_X12_act_3 ga_wsX120)))
set_option maxRecDepth 20000 in
theorem gX12_act_X12_isWeek : GoodIn wsX12_act (wsV RX12 152 RX12 yX12_isWeek wsX12_isWeek) := goodIn_app (gd_cons (lf_X12_act_1 _ (List.mem_of_getElem? (i := 3) rfl)) rfl (gd_cons (lf_X12_act_1 _ (List.mem_of_getElem? (i := 4) rfl)) rfl (gd_cons (lf_X12_act_1 _ (List.mem_of_getElem? (i := 5) rfl)) rfl (gd_cons (lf_X12_act_1 _ (List.mem_of_getElem? (i := 6) rfl)) rfl (gd_nil _))))) ggX12_act_X12_isWeek
set_option maxRecDepth 20000 in
theorem ggX12_act_X12_after : GoodIn wsX12_act wsX12_after := (gd_cons (lf_X12_act_1 _ (List.mem_of_getElem? (i := 15) rfl)) rfl (goodIn_app (gd_cons (lf_X12_act_1 _ (List.mem_of_getElem? (i := 8) rfl)) rfl (gd_cons (lf_X12_act_1 _ (List.mem_of_getElem? (i := 16) rfl)) rfl (gd_cons (lf_X12_act_1 _ (List.mem_of_getElem? (i := 17) rfl)) rfl (gd_cons (lf_X12_act_1 _ (List.mem_of_getElem? (i := 6) rfl)) rfl (gd_cons (lf_X12_act_1 _ (List.mem_of_getElem? (i := 18) rfl)) rfl (gd_cons (lf_X12_act_1 _ (List.mem_of_getElem? (i := 19) rfl)) rfl (gd_cons (lf_X12_act_1 _ (List.mem_of_getElem? (i := 20) rfl)) rfl (gd_cons (lf_X12_act_1 _ (List.mem_of_getElem? (i := 21) rfl)) rfl (gd_nil _))))))))) (goodIn_sub lf_X12_act_3 ga_wsX120)))
set_option maxRecDepth 20000 in
theorem gX12_act_X12_after : GoodIn wsX12_act (wsV RX12 174 RX12 yX12_after wsX12_after) := goodIn_app (gd_cons (lf_X12_act_1 _ (List.mem_of_getElem? (i := 12) rfl)) rfl (gd_cons (lf_X12_act_1 _ (List.mem_of_getElem? (i := 13) rfl)) rfl (gd_cons (lf_X12_act_1 _ (List.mem_of_getElem? (i := 14) rfl)) rfl (gd_cons (lf_X12_act_1 _ (List.mem_of_getElem? (i := 6) rfl)) rfl (gd_nil _))))) ggX12_act_X12_after
set_option maxRecDepth 20000 in
theorem ggX12_act_X12_costOf : GoodIn wsX12_act wsX12_costOf := (gd_cons (lf_X12_act_2 _ (List.mem_of_getElem? (i := 1) rfl)) rfl (goodIn_app (gd_cons (lf_X12_act_1 _ (List.mem_of_getElem? (i := 8) rfl)) rfl (gd_cons (lf_X12_act_2 _ (List.mem_of_getElem? (i := 2) rfl)) rfl (gd_cons (lf_X12_act_2 _ (List.mem_of_getElem? (i := 3) rfl)) rfl (gd_cons (lf_X12_act_2 _ (List.mem_of_getElem? (i := 4) rfl)) rfl (gd_cons (lf_X12_act_1 _ (List.mem_of_getElem? (i := 6) rfl)) rfl (gd_cons (lf_X12_act_2 _ (List.mem_of_getElem? (i := 5) rfl)) rfl (gd_cons (lf_X12_act_1 _ (List.mem_of_getElem? (i := 16) rfl)) rfl (gd_cons (lf_X12_act_1 _ (List.mem_of_getElem? (i := 17) rfl)) rfl (gd_cons (lf_X12_act_1 _ (List.mem_of_getElem? (i := 18) rfl)) rfl (gd_nil _)))))))))) (goodIn_sub lf_X12_act_3 ga_wsX120)))
set_option maxRecDepth 20000 in
theorem gX12_act_X12_costOf : GoodIn wsX12_act (wsV RX12 181 RX12 yX12_costOf wsX12_costOf) := goodIn_app (gd_cons (lf_X12_act_1 _ (List.mem_of_getElem? (i := 22) rfl)) rfl (gd_cons (lf_X12_act_1 _ (List.mem_of_getElem? (i := 23) rfl)) rfl (gd_cons (lf_X12_act_2 _ (List.mem_of_getElem? (i := 0) rfl)) rfl (gd_cons (lf_X12_act_1 _ (List.mem_of_getElem? (i := 6) rfl)) rfl (gd_nil _))))) ggX12_act_X12_costOf
theorem dX12_act_0 : decode cX12_act 0 = .ok (.iload_n 1, 1) := dq_27 (dst 0 rd_prog_14_method_64_code_0 rfl)
theorem dX12_act_1 : decode cX12_act 1 = .ok (.ifCond .ge 6, 3) := dq_156 (dst 1 rd_prog_14_method_64_code_0 rfl) (by decide +kernel)
theorem dX12_act_4 : decode cX12_act 4 = .ok (.bipush (-2), 2) := dq_16 (dst 4 rd_prog_14_method_64_code_0 rfl) (by decide +kernel)
theorem dX12_act_6 : decode cX12_act 6 = .ok (.ireturn, 1) := dq_172 (dst 6 rd_prog_14_method_64_code_0 rfl)
theorem dX12_act_7 : decode cX12_act 7 = .ok (.aload_n 0, 1) := dq_42 (dst 7 rd_prog_14_method_64_code_0 rfl)
theorem dX12_act_8 : decode cX12_act 8 = .ok (.getfield 47, 3) := dq_180 (dst 8 rd_prog_14_method_64_code_0 rfl) rfl
theorem dX12_act_11 : decode cX12_act 11 = .ok (.iconst 3, 1) := dq_6 (dst 11 rd_prog_14_method_64_code_0 rfl)
theorem dX12_act_12 : decode cX12_act 12 = .ok (.iaload, 1) := dq_46 (dst 12 rd_prog_14_method_64_code_0 rfl)
theorem dX12_act_13 : decode cX12_act 13 = .ok (.iconst 1, 1) := dq_4 (dst 13 rd_prog_14_method_64_code_0 rfl)
theorem dX12_act_14 : decode cX12_act 14 = .ok (.if_icmp .eq 16, 3) := dq_159 (dst 14 rd_prog_14_method_64_code_0 rfl) (by decide +kernel)
theorem dX12_act_17 : decode cX12_act 17 = .ok (.aload_n 0, 1) := dq_42 (dst 17 rd_prog_14_method_64_code_0 rfl)
theorem dX12_act_18 : decode cX12_act 18 = .ok (.aload_n 0, 1) := dq_42 (dst 18 rd_prog_14_method_64_code_0 rfl)
theorem dX12_act_19 : decode cX12_act 19 = .ok (.getfield 47, 3) := dq_180 (dst 19 rd_prog_14_method_64_code_0 rfl) rfl
theorem dX12_act_22 : decode cX12_act 22 = .ok (.iconst 0, 1) := dq_3 (dst 22 rd_prog_14_method_64_code_0 rfl)
theorem dX12_act_23 : decode cX12_act 23 = .ok (.iaload, 1) := dq_46 (dst 23 rd_prog_14_method_64_code_0 rfl)
theorem dX12_act_24 : decode cX12_act 24 = .ok (.invokevirtual 152, 3) := dq_182 (dst 24 rd_prog_14_method_64_code_0 rfl) rfl
theorem dX12_act_27 : decode cX12_act 27 = .ok (.ifCond .ne 8, 3) := dq_154 (dst 27 rd_prog_14_method_64_code_0 rfl) (by decide +kernel)
theorem dX12_act_30 : decode cX12_act 30 = .ok (.bipush (-9), 2) := dq_16 (dst 30 rd_prog_14_method_64_code_0 rfl) (by decide +kernel)
theorem dX12_act_32 : decode cX12_act 32 = .ok (.goto 20, 3) := dq_167 (dst 0 rd_prog_14_method_64_code_1 rfl) (by decide +kernel)
theorem dX12_act_35 : decode cX12_act 35 = .ok (.aload_n 0, 1) := dq_42 (dst 3 rd_prog_14_method_64_code_1 rfl)
theorem dX12_act_36 : decode cX12_act 36 = .ok (.aload_n 0, 1) := dq_42 (dst 4 rd_prog_14_method_64_code_1 rfl)
theorem dX12_act_37 : decode cX12_act 37 = .ok (.getfield 47, 3) := dq_180 (dst 5 rd_prog_14_method_64_code_1 rfl) rfl
theorem dX12_act_40 : decode cX12_act 40 = .ok (.iconst 0, 1) := dq_3 (dst 8 rd_prog_14_method_64_code_1 rfl)
theorem dX12_act_41 : decode cX12_act 41 = .ok (.iaload, 1) := dq_46 (dst 9 rd_prog_14_method_64_code_1 rfl)
theorem dX12_act_42 : decode cX12_act 42 = .ok (.aload_n 0, 1) := dq_42 (dst 10 rd_prog_14_method_64_code_1 rfl)
theorem dX12_act_43 : decode cX12_act 43 = .ok (.getfield 47, 3) := dq_180 (dst 11 rd_prog_14_method_64_code_1 rfl) rfl
theorem dX12_act_46 : decode cX12_act 46 = .ok (.iconst 1, 1) := dq_4 (dst 14 rd_prog_14_method_64_code_1 rfl)
theorem dX12_act_47 : decode cX12_act 47 = .ok (.iaload, 1) := dq_46 (dst 15 rd_prog_14_method_64_code_1 rfl)
theorem dX12_act_48 : decode cX12_act 48 = .ok (.iload_n 1, 1) := dq_27 (dst 16 rd_prog_14_method_64_code_1 rfl)
theorem dX12_act_49 : decode cX12_act 49 = .ok (.invokevirtual 174, 3) := dq_182 (dst 17 rd_prog_14_method_64_code_1 rfl) rfl
theorem dX12_act_52 : decode cX12_act 52 = .ok (.istore_n 2, 1) := dq_61 (dst 20 rd_prog_14_method_64_code_1 rfl)
theorem dX12_act_53 : decode cX12_act 53 = .ok (.iload_n 2, 1) := dq_28 (dst 21 rd_prog_14_method_64_code_1 rfl)
theorem dX12_act_54 : decode cX12_act 54 = .ok (.bipush (-9), 2) := dq_16 (dst 22 rd_prog_14_method_64_code_1 rfl) (by decide +kernel)
theorem dX12_act_56 : decode cX12_act 56 = .ok (.if_icmp .ne 6, 3) := dq_160 (dst 24 rd_prog_14_method_64_code_1 rfl) (by decide +kernel)
theorem dX12_act_59 : decode cX12_act 59 = .ok (.bipush (-3), 2) := dq_16 (dst 27 rd_prog_14_method_64_code_1 rfl) (by decide +kernel)
theorem dX12_act_61 : decode cX12_act 61 = .ok (.ireturn, 1) := dq_172 (dst 29 rd_prog_14_method_64_code_1 rfl)
theorem dX12_act_62 : decode cX12_act 62 = .ok (.aload_n 0, 1) := dq_42 (dst 30 rd_prog_14_method_64_code_1 rfl)
theorem dX12_act_63 : decode cX12_act 63 = .ok (.aload_n 0, 1) := dq_42 (dst 31 rd_prog_14_method_64_code_1 rfl)
theorem dX12_act_64 : decode cX12_act 64 = .ok (.getfield 47, 3) := dq_180 (dst 0 rd_prog_14_method_64_code_2 rfl) rfl
theorem dX12_act_67 : decode cX12_act 67 = .ok (.iconst 0, 1) := dq_3 (dst 3 rd_prog_14_method_64_code_2 rfl)
theorem dX12_act_68 : decode cX12_act 68 = .ok (.iaload, 1) := dq_46 (dst 4 rd_prog_14_method_64_code_2 rfl)
theorem dX12_act_69 : decode cX12_act 69 = .ok (.iload_n 2, 1) := dq_28 (dst 5 rd_prog_14_method_64_code_2 rfl)
theorem dX12_act_70 : decode cX12_act 70 = .ok (.aload_n 0, 1) := dq_42 (dst 6 rd_prog_14_method_64_code_2 rfl)
theorem dX12_act_71 : decode cX12_act 71 = .ok (.getfield 47, 3) := dq_180 (dst 7 rd_prog_14_method_64_code_2 rfl) rfl
theorem dX12_act_74 : decode cX12_act 74 = .ok (.iconst 2, 1) := dq_5 (dst 10 rd_prog_14_method_64_code_2 rfl)
theorem dX12_act_75 : decode cX12_act 75 = .ok (.iaload, 1) := dq_46 (dst 11 rd_prog_14_method_64_code_2 rfl)
theorem dX12_act_76 : decode cX12_act 76 = .ok (.iload_n 1, 1) := dq_27 (dst 12 rd_prog_14_method_64_code_2 rfl)
theorem dX12_act_77 : decode cX12_act 77 = .ok (.invokevirtual 181, 3) := dq_182 (dst 13 rd_prog_14_method_64_code_2 rfl) rfl
theorem dX12_act_80 : decode cX12_act 80 = .ok (.istore_n 3, 1) := dq_62 (dst 16 rd_prog_14_method_64_code_2 rfl)
theorem dX12_act_81 : decode cX12_act 81 = .ok (.aload_n 0, 1) := dq_42 (dst 17 rd_prog_14_method_64_code_2 rfl)
theorem dX12_act_82 : decode cX12_act 82 = .ok (.getfield 47, 3) := dq_180 (dst 18 rd_prog_14_method_64_code_2 rfl) rfl
theorem dX12_act_85 : decode cX12_act 85 = .ok (.iconst 1, 1) := dq_4 (dst 21 rd_prog_14_method_64_code_2 rfl)
theorem dX12_act_86 : decode cX12_act 86 = .ok (.iload_n 2, 1) := dq_28 (dst 22 rd_prog_14_method_64_code_2 rfl)
theorem dX12_act_87 : decode cX12_act 87 = .ok (.iastore, 1) := dq_79 (dst 23 rd_prog_14_method_64_code_2 rfl)
theorem dX12_act_88 : decode cX12_act 88 = .ok (.aload_n 0, 1) := dq_42 (dst 24 rd_prog_14_method_64_code_2 rfl)
theorem dX12_act_89 : decode cX12_act 89 = .ok (.getfield 47, 3) := dq_180 (dst 25 rd_prog_14_method_64_code_2 rfl) rfl
theorem dX12_act_92 : decode cX12_act 92 = .ok (.iconst 3, 1) := dq_6 (dst 28 rd_prog_14_method_64_code_2 rfl)
theorem dX12_act_93 : decode cX12_act 93 = .ok (.iconst 1, 1) := dq_4 (dst 29 rd_prog_14_method_64_code_2 rfl)
theorem dX12_act_94 : decode cX12_act 94 = .ok (.iastore, 1) := dq_79 (dst 30 rd_prog_14_method_64_code_2 rfl)
theorem dX12_act_95 : decode cX12_act 95 = .ok (.aload_n 0, 1) := dq_42 (dst 31 rd_prog_14_method_64_code_2 rfl)
theorem dX12_act_96 : decode cX12_act 96 = .ok (.getfield 47, 3) := dq_180 (dst 0 rd_prog_14_method_64_code_3 rfl) rfl
theorem dX12_act_99 : decode cX12_act 99 = .ok (.iconst 4, 1) := dq_7 (dst 3 rd_prog_14_method_64_code_3 rfl)
theorem dX12_act_100 : decode cX12_act 100 = .ok (.dup2, 1) := dq_92 (dst 4 rd_prog_14_method_64_code_3 rfl)
theorem dX12_act_101 : decode cX12_act 101 = .ok (.iaload, 1) := dq_46 (dst 5 rd_prog_14_method_64_code_3 rfl)
theorem dX12_act_102 : decode cX12_act 102 = .ok (.iload_n 3, 1) := dq_29 (dst 6 rd_prog_14_method_64_code_3 rfl)
theorem dX12_act_103 : decode cX12_act 103 = .ok (.iadd, 1) := dq_96 (dst 7 rd_prog_14_method_64_code_3 rfl)
theorem dX12_act_104 : decode cX12_act 104 = .ok (.iastore, 1) := dq_79 (dst 8 rd_prog_14_method_64_code_3 rfl)
theorem dX12_act_105 : decode cX12_act 105 = .ok (.aload_n 0, 1) := dq_42 (dst 9 rd_prog_14_method_64_code_3 rfl)
theorem dX12_act_106 : decode cX12_act 106 = .ok (.iload_n 1, 1) := dq_27 (dst 10 rd_prog_14_method_64_code_3 rfl)
theorem dX12_act_107 : decode cX12_act 107 = .ok (.bipush 10, 2) := dq_16 (dst 11 rd_prog_14_method_64_code_3 rfl) (by decide +kernel)
theorem dX12_act_109 : decode cX12_act 109 = .ok (.irem, 1) := dq_112 (dst 13 rd_prog_14_method_64_code_3 rfl)
theorem dX12_act_110 : decode cX12_act 110 = .ok (.putfield 140, 3) := dq_181 (dst 14 rd_prog_14_method_64_code_3 rfl) rfl
theorem dX12_act_113 : decode cX12_act 113 = .ok (.aload_n 0, 1) := dq_42 (dst 17 rd_prog_14_method_64_code_3 rfl)
theorem dX12_act_114 : decode cX12_act 114 = .ok (.iload_n 2, 1) := dq_28 (dst 18 rd_prog_14_method_64_code_3 rfl)
theorem dX12_act_115 : decode cX12_act 115 = .ok (.putfield 143, 3) := dq_181 (dst 19 rd_prog_14_method_64_code_3 rfl) rfl
theorem dX12_act_118 : decode cX12_act 118 = .ok (.iload_n 3, 1) := dq_29 (dst 22 rd_prog_14_method_64_code_3 rfl)
theorem dX12_act_119 : decode cX12_act 119 = .ok (.ireturn, 1) := dq_172 (dst 23 rd_prog_14_method_64_code_3 rfl)
theorem dX12_left_0 : decode cX12_left 0 = .ok (.iload_n 0, 1) := dq_26 (dst 0 rd_prog_14_method_65_code_0 rfl)
theorem dX12_left_1 : decode cX12_left 1 = .ok (.bipush 100, 2) := dq_16 (dst 1 rd_prog_14_method_65_code_0 rfl) (by decide +kernel)
theorem dX12_left_3 : decode cX12_left 3 = .ok (.idiv, 1) := dq_108 (dst 3 rd_prog_14_method_65_code_0 rfl)
theorem dX12_left_4 : decode cX12_left 4 = .ok (.iload_n 1, 1) := dq_27 (dst 4 rd_prog_14_method_65_code_0 rfl)
theorem dX12_left_5 : decode cX12_left 5 = .ok (.bipush 100, 2) := dq_16 (dst 5 rd_prog_14_method_65_code_0 rfl) (by decide +kernel)
theorem dX12_left_7 : decode cX12_left 7 = .ok (.idiv, 1) := dq_108 (dst 7 rd_prog_14_method_65_code_0 rfl)
theorem dX12_left_8 : decode cX12_left 8 = .ok (.isub, 1) := dq_100 (dst 8 rd_prog_14_method_65_code_0 rfl)
theorem dX12_left_9 : decode cX12_left 9 = .ok (.istore_n 2, 1) := dq_61 (dst 9 rd_prog_14_method_65_code_0 rfl)
theorem dX12_left_10 : decode cX12_left 10 = .ok (.iload_n 0, 1) := dq_26 (dst 10 rd_prog_14_method_65_code_0 rfl)
theorem dX12_left_11 : decode cX12_left 11 = .ok (.bipush 10, 2) := dq_16 (dst 11 rd_prog_14_method_65_code_0 rfl) (by decide +kernel)
theorem dX12_left_13 : decode cX12_left 13 = .ok (.idiv, 1) := dq_108 (dst 13 rd_prog_14_method_65_code_0 rfl)
theorem dX12_left_14 : decode cX12_left 14 = .ok (.bipush 10, 2) := dq_16 (dst 14 rd_prog_14_method_65_code_0 rfl) (by decide +kernel)
theorem dX12_left_16 : decode cX12_left 16 = .ok (.irem, 1) := dq_112 (dst 16 rd_prog_14_method_65_code_0 rfl)
theorem dX12_left_17 : decode cX12_left 17 = .ok (.iload_n 1, 1) := dq_27 (dst 17 rd_prog_14_method_65_code_0 rfl)
theorem dX12_left_18 : decode cX12_left 18 = .ok (.bipush 10, 2) := dq_16 (dst 18 rd_prog_14_method_65_code_0 rfl) (by decide +kernel)
theorem dX12_left_20 : decode cX12_left 20 = .ok (.idiv, 1) := dq_108 (dst 20 rd_prog_14_method_65_code_0 rfl)
theorem dX12_left_21 : decode cX12_left 21 = .ok (.bipush 10, 2) := dq_16 (dst 21 rd_prog_14_method_65_code_0 rfl) (by decide +kernel)
theorem dX12_left_23 : decode cX12_left 23 = .ok (.irem, 1) := dq_112 (dst 23 rd_prog_14_method_65_code_0 rfl)
theorem dX12_left_24 : decode cX12_left 24 = .ok (.isub, 1) := dq_100 (dst 24 rd_prog_14_method_65_code_0 rfl)
theorem dX12_left_25 : decode cX12_left 25 = .ok (.istore_n 3, 1) := dq_62 (dst 25 rd_prog_14_method_65_code_0 rfl)
theorem dX12_left_26 : decode cX12_left 26 = .ok (.iload_n 0, 1) := dq_26 (dst 26 rd_prog_14_method_65_code_0 rfl)
theorem dX12_left_27 : decode cX12_left 27 = .ok (.bipush 10, 2) := dq_16 (dst 27 rd_prog_14_method_65_code_0 rfl) (by decide +kernel)
theorem dX12_left_29 : decode cX12_left 29 = .ok (.irem, 1) := dq_112 (dst 29 rd_prog_14_method_65_code_0 rfl)
theorem dX12_left_30 : decode cX12_left 30 = .ok (.iload_n 1, 1) := dq_27 (dst 30 rd_prog_14_method_65_code_0 rfl)
theorem dX12_left_31 : decode cX12_left 31 = .ok (.bipush 10, 2) := dq_16 (dst 31 rd_prog_14_method_65_code_0 rfl) (by decide +kernel)
theorem dX12_left_33 : decode cX12_left 33 = .ok (.irem, 1) := dq_112 (dst 1 rd_prog_14_method_65_code_1 rfl)
theorem dX12_left_34 : decode cX12_left 34 = .ok (.isub, 1) := dq_100 (dst 2 rd_prog_14_method_65_code_1 rfl)
theorem dX12_left_35 : decode cX12_left 35 = .ok (.istore 4, 2) := dq_54 (dst 3 rd_prog_14_method_65_code_1 rfl) rfl
theorem dX12_left_37 : decode cX12_left 37 = .ok (.iload_n 2, 1) := dq_28 (dst 5 rd_prog_14_method_65_code_1 rfl)
theorem dX12_left_38 : decode cX12_left 38 = .ok (.ifCond .lt 12, 3) := dq_155 (dst 6 rd_prog_14_method_65_code_1 rfl) (by decide +kernel)
theorem dX12_left_41 : decode cX12_left 41 = .ok (.iload_n 3, 1) := dq_29 (dst 9 rd_prog_14_method_65_code_1 rfl)
theorem dX12_left_42 : decode cX12_left 42 = .ok (.ifCond .lt 8, 3) := dq_155 (dst 10 rd_prog_14_method_65_code_1 rfl) (by decide +kernel)
theorem dX12_left_45 : decode cX12_left 45 = .ok (.iload 4, 2) := dq_21 (dst 13 rd_prog_14_method_65_code_1 rfl) rfl
theorem dX12_left_47 : decode cX12_left 47 = .ok (.ifCond .ge 8, 3) := dq_156 (dst 15 rd_prog_14_method_65_code_1 rfl) (by decide +kernel)
theorem dX12_left_50 : decode cX12_left 50 = .ok (.bipush (-9), 2) := dq_16 (dst 18 rd_prog_14_method_65_code_1 rfl) (by decide +kernel)
theorem dX12_left_52 : decode cX12_left 52 = .ok (.goto 12, 3) := dq_167 (dst 20 rd_prog_14_method_65_code_1 rfl) (by decide +kernel)
theorem dX12_left_55 : decode cX12_left 55 = .ok (.bipush 10, 2) := dq_16 (dst 23 rd_prog_14_method_65_code_1 rfl) (by decide +kernel)
theorem dX12_left_57 : decode cX12_left 57 = .ok (.iload_n 2, 1) := dq_28 (dst 25 rd_prog_14_method_65_code_1 rfl)
theorem dX12_left_58 : decode cX12_left 58 = .ok (.imul, 1) := dq_104 (dst 26 rd_prog_14_method_65_code_1 rfl)
theorem dX12_left_59 : decode cX12_left 59 = .ok (.iload_n 3, 1) := dq_29 (dst 27 rd_prog_14_method_65_code_1 rfl)
theorem dX12_left_60 : decode cX12_left 60 = .ok (.iadd, 1) := dq_96 (dst 28 rd_prog_14_method_65_code_1 rfl)
theorem dX12_left_61 : decode cX12_left 61 = .ok (.iload 4, 2) := dq_21 (dst 29 rd_prog_14_method_65_code_1 rfl) rfl
theorem dX12_left_63 : decode cX12_left 63 = .ok (.iadd, 1) := dq_96 (dst 31 rd_prog_14_method_65_code_1 rfl)
theorem dX12_left_64 : decode cX12_left 64 = .ok (.ireturn, 1) := dq_172 (dst 0 rd_prog_14_method_65_code_2 rfl)
theorem lf_X12_isGone_1 : ∀ w ∈ ([Cond.constantLong RX12 248 (444), Cond.methodLink RX12 73 yX12_in, Cond.static yX12_in, Cond.initialized RX12, Cond.code yX12_in cX12_in 6 (some .boolean)] : List Cond), w ∈ wsX12_isGone := fun _ h => (List.mem_cons_of_mem _ h)
set_option maxRecDepth 20000 in
theorem ggX12_isGone_X12_in : GoodIn wsX12_isGone wsX12_in := (gd_cons (lf_X12_isGone_1 _ (List.mem_of_getElem? (i := 4) rfl)) rfl (gd_nil _))
set_option maxRecDepth 20000 in
theorem gX12_isGone_X12_in : GoodIn wsX12_isGone (va_wsS RX12 73 yX12_in wsX12_in) := goodIn_app (gd_cons (lf_X12_isGone_1 _ (List.mem_of_getElem? (i := 1) rfl)) rfl (gd_cons (lf_X12_isGone_1 _ (List.mem_of_getElem? (i := 2) rfl)) rfl (gd_cons (lf_X12_isGone_1 _ (List.mem_of_getElem? (i := 3) rfl)) rfl (gd_nil _)))) ggX12_isGone_X12_in
theorem dX12_isGone_0 : decode cX12_isGone 0 = .ok (.iload_n 0, 1) := dq_26 (dst 0 rd_prog_14_method_66_code_0 rfl)
theorem dX12_isGone_1 : decode cX12_isGone 1 = .ok (.i2l, 1) := dq_133 (dst 1 rd_prog_14_method_66_code_0 rfl)
theorem dX12_isGone_2 : decode cX12_isGone 2 = .ok (.lconst 0, 1) := dq_9 (dst 2 rd_prog_14_method_66_code_0 rfl)
theorem dX12_isGone_3 : decode cX12_isGone 3 = .ok (.ldc2_w 248, 3) := dq_20 (dst 3 rd_prog_14_method_66_code_0 rfl) rfl
theorem dX12_isGone_6 : decode cX12_isGone 6 = .ok (.invokestatic 73, 3) := dq_184 (dst 6 rd_prog_14_method_66_code_0 rfl) rfl
theorem dX12_isGone_9 : decode cX12_isGone 9 = .ok (.ifCond .eq 26, 3) := dq_153 (dst 9 rd_prog_14_method_66_code_0 rfl) (by decide +kernel)
theorem dX12_isGone_12 : decode cX12_isGone 12 = .ok (.iload_n 0, 1) := dq_26 (dst 12 rd_prog_14_method_66_code_0 rfl)
theorem dX12_isGone_13 : decode cX12_isGone 13 = .ok (.bipush 10, 2) := dq_16 (dst 13 rd_prog_14_method_66_code_0 rfl) (by decide +kernel)
theorem dX12_isGone_15 : decode cX12_isGone 15 = .ok (.idiv, 1) := dq_108 (dst 15 rd_prog_14_method_66_code_0 rfl)
theorem dX12_isGone_16 : decode cX12_isGone 16 = .ok (.bipush 10, 2) := dq_16 (dst 16 rd_prog_14_method_66_code_0 rfl) (by decide +kernel)
theorem dX12_isGone_18 : decode cX12_isGone 18 = .ok (.irem, 1) := dq_112 (dst 18 rd_prog_14_method_66_code_0 rfl)
theorem dX12_isGone_19 : decode cX12_isGone 19 = .ok (.iconst 5, 1) := dq_8 (dst 19 rd_prog_14_method_66_code_0 rfl)
theorem dX12_isGone_20 : decode cX12_isGone 20 = .ok (.if_icmp .ge 15, 3) := dq_162 (dst 20 rd_prog_14_method_66_code_0 rfl) (by decide +kernel)
theorem dX12_isGone_23 : decode cX12_isGone 23 = .ok (.iload_n 0, 1) := dq_26 (dst 23 rd_prog_14_method_66_code_0 rfl)
theorem dX12_isGone_24 : decode cX12_isGone 24 = .ok (.bipush 10, 2) := dq_16 (dst 24 rd_prog_14_method_66_code_0 rfl) (by decide +kernel)
theorem dX12_isGone_26 : decode cX12_isGone 26 = .ok (.irem, 1) := dq_112 (dst 26 rd_prog_14_method_66_code_0 rfl)
theorem dX12_isGone_27 : decode cX12_isGone 27 = .ok (.iconst 5, 1) := dq_8 (dst 27 rd_prog_14_method_66_code_0 rfl)
theorem dX12_isGone_28 : decode cX12_isGone 28 = .ok (.if_icmp .ge 7, 3) := dq_162 (dst 28 rd_prog_14_method_66_code_0 rfl) (by decide +kernel)
theorem dX12_isGone_31 : decode cX12_isGone 31 = .ok (.iconst 1, 1) := dq_4 (dst 31 rd_prog_14_method_66_code_0 rfl)
theorem dX12_isGone_32 : decode cX12_isGone 32 = .ok (.goto 4, 3) := dq_167 (dst 0 rd_prog_14_method_66_code_1 rfl) (by decide +kernel)
theorem dX12_isGone_35 : decode cX12_isGone 35 = .ok (.iconst 0, 1) := dq_3 (dst 3 rd_prog_14_method_66_code_1 rfl)
theorem dX12_isGone_36 : decode cX12_isGone 36 = .ok (.ireturn, 1) := dq_172 (dst 4 rd_prog_14_method_66_code_1 rfl)
theorem lf_X12_gone_1 : ∀ w ∈ wsX12_gone_r1, w ∈ wsX12_gone := fun _ h => (List.mem_cons_of_mem _ (List.mem_append_left _ (List.mem_append_left _ h)))
theorem lf_X12_gone_2 : ∀ w ∈ wsX12_gone_r2, w ∈ wsX12_gone := fun _ h => (List.mem_cons_of_mem _ (List.mem_append_left _ (List.mem_append_right _ h)))
theorem lf_X12_gone_3 : ∀ w ∈ wsX120, w ∈ wsX12_gone := fun _ h => (List.mem_cons_of_mem _ (List.mem_append_right _ h))
set_option maxRecDepth 20000 in
theorem ggX12_gone_X12_isGone : GoodIn wsX12_gone wsX12_isGone := (gd_cons (lf_X12_gone_1 _ (List.mem_of_getElem? (i := 6) rfl)) rfl (gd_cons (lf_X12_gone_1 _ (List.mem_of_getElem? (i := 7) rfl)) rfl (gd_cons (lf_X12_gone_1 _ (List.mem_of_getElem? (i := 8) rfl)) rfl (gd_cons (lf_X12_gone_1 _ (List.mem_of_getElem? (i := 9) rfl)) rfl (gd_cons (lf_X12_gone_1 _ (List.mem_of_getElem? (i := 5) rfl)) rfl (gd_cons (lf_X12_gone_1 _ (List.mem_of_getElem? (i := 10) rfl)) rfl (gd_nil _)))))))
set_option maxRecDepth 20000 in
theorem gX12_gone_X12_isGone : GoodIn wsX12_gone (va_wsS RX12 250 yX12_isGone wsX12_isGone) := goodIn_app (gd_cons (lf_X12_gone_1 _ (List.mem_of_getElem? (i := 3) rfl)) rfl (gd_cons (lf_X12_gone_1 _ (List.mem_of_getElem? (i := 4) rfl)) rfl (gd_cons (lf_X12_gone_1 _ (List.mem_of_getElem? (i := 5) rfl)) rfl (gd_nil _)))) ggX12_gone_X12_isGone
set_option maxRecDepth 20000 in
theorem ggX12_gone_X12_left : GoodIn wsX12_gone wsX12_left := (gd_cons (lf_X12_gone_1 _ (List.mem_of_getElem? (i := 13) rfl)) rfl (gd_nil _))
set_option maxRecDepth 20000 in
theorem gX12_gone_X12_left : GoodIn wsX12_gone (va_wsS RX12 253 yX12_left wsX12_left) := goodIn_app (gd_cons (lf_X12_gone_1 _ (List.mem_of_getElem? (i := 11) rfl)) rfl (gd_cons (lf_X12_gone_1 _ (List.mem_of_getElem? (i := 12) rfl)) rfl (gd_cons (lf_X12_gone_1 _ (List.mem_of_getElem? (i := 5) rfl)) rfl (gd_nil _)))) ggX12_gone_X12_left
set_option maxRecDepth 20000 in
theorem ggX12_gone_X12_isWeek : GoodIn wsX12_gone wsX12_isWeek := (gd_cons (lf_X12_gone_1 _ (List.mem_of_getElem? (i := 17) rfl)) rfl (goodIn_app (gd_cons (lf_X12_gone_1 _ (List.mem_of_getElem? (i := 18) rfl)) rfl (gd_cons (lf_X12_gone_1 _ (List.mem_of_getElem? (i := 8) rfl)) rfl (gd_cons (lf_X12_gone_1 _ (List.mem_of_getElem? (i := 9) rfl)) rfl (gd_cons (lf_X12_gone_1 _ (List.mem_of_getElem? (i := 5) rfl)) rfl (gd_cons (lf_X12_gone_1 _ (List.mem_of_getElem? (i := 10) rfl)) rfl (gd_nil _)))))) (goodIn_sub lf_X12_gone_3 ga_wsX120)))
set_option maxRecDepth 20000 in
theorem gX12_gone_X12_isWeek : GoodIn wsX12_gone (wsV RX12 152 RX12 yX12_isWeek wsX12_isWeek) := goodIn_app (gd_cons (lf_X12_gone_1 _ (List.mem_of_getElem? (i := 14) rfl)) rfl (gd_cons (lf_X12_gone_1 _ (List.mem_of_getElem? (i := 15) rfl)) rfl (gd_cons (lf_X12_gone_1 _ (List.mem_of_getElem? (i := 16) rfl)) rfl (gd_cons (lf_X12_gone_1 _ (List.mem_of_getElem? (i := 5) rfl)) rfl (gd_nil _))))) ggX12_gone_X12_isWeek
set_option maxRecDepth 20000 in
theorem ggX12_gone_X12_bonus : GoodIn wsX12_gone wsX12_bonus := (gd_cons (lf_X12_gone_1 _ (List.mem_of_getElem? (i := 22) rfl)) rfl (goodIn_app (gd_cons (lf_X12_gone_1 _ (List.mem_of_getElem? (i := 18) rfl)) rfl (gd_cons (lf_X12_gone_1 _ (List.mem_of_getElem? (i := 23) rfl)) rfl (gd_cons (lf_X12_gone_2 _ (List.mem_of_getElem? (i := 0) rfl)) rfl (gd_cons (lf_X12_gone_1 _ (List.mem_of_getElem? (i := 5) rfl)) rfl (gd_cons (lf_X12_gone_2 _ (List.mem_of_getElem? (i := 1) rfl)) rfl (gd_nil _)))))) (goodIn_sub lf_X12_gone_3 ga_wsX120)))
set_option maxRecDepth 20000 in
theorem gX12_gone_X12_bonus : GoodIn wsX12_gone (wsV RX12 211 RX12 yX12_bonus wsX12_bonus) := goodIn_app (gd_cons (lf_X12_gone_1 _ (List.mem_of_getElem? (i := 19) rfl)) rfl (gd_cons (lf_X12_gone_1 _ (List.mem_of_getElem? (i := 20) rfl)) rfl (gd_cons (lf_X12_gone_1 _ (List.mem_of_getElem? (i := 21) rfl)) rfl (gd_cons (lf_X12_gone_1 _ (List.mem_of_getElem? (i := 5) rfl)) rfl (gd_nil _))))) ggX12_gone_X12_bonus
set_option maxRecDepth 20000 in
theorem ggX12_gone_X12_all : GoodIn wsX12_gone wsX12_all := (gd_cons (lf_X12_gone_2 _ (List.mem_of_getElem? (i := 1) rfl)) rfl (gd_nil _))
set_option maxRecDepth 20000 in
theorem gX12_gone_X12_all : GoodIn wsX12_gone (va_wsS RX12 160 yX12_all wsX12_all) := goodIn_app (gd_cons (lf_X12_gone_1 _ (List.mem_of_getElem? (i := 23) rfl)) rfl (gd_cons (lf_X12_gone_2 _ (List.mem_of_getElem? (i := 0) rfl)) rfl (gd_cons (lf_X12_gone_1 _ (List.mem_of_getElem? (i := 5) rfl)) rfl (gd_nil _)))) ggX12_gone_X12_all
theorem dX12_gone_0 : decode cX12_gone 0 = .ok (.iload_n 1, 1) := dq_27 (dst 0 rd_prog_14_method_67_code_0 rfl)
theorem dX12_gone_1 : decode cX12_gone 1 = .ok (.invokestatic 250, 3) := dq_184 (dst 1 rd_prog_14_method_67_code_0 rfl) rfl
theorem dX12_gone_4 : decode cX12_gone 4 = .ok (.ifCond .ne 6, 3) := dq_154 (dst 4 rd_prog_14_method_67_code_0 rfl) (by decide +kernel)
theorem dX12_gone_7 : decode cX12_gone 7 = .ok (.bipush (-2), 2) := dq_16 (dst 7 rd_prog_14_method_67_code_0 rfl) (by decide +kernel)
theorem dX12_gone_9 : decode cX12_gone 9 = .ok (.ireturn, 1) := dq_172 (dst 9 rd_prog_14_method_67_code_0 rfl)
theorem dX12_gone_10 : decode cX12_gone 10 = .ok (.aload_n 0, 1) := dq_42 (dst 10 rd_prog_14_method_67_code_0 rfl)
theorem dX12_gone_11 : decode cX12_gone 11 = .ok (.getfield 47, 3) := dq_180 (dst 11 rd_prog_14_method_67_code_0 rfl) rfl
theorem dX12_gone_14 : decode cX12_gone 14 = .ok (.iconst 3, 1) := dq_6 (dst 14 rd_prog_14_method_67_code_0 rfl)
theorem dX12_gone_15 : decode cX12_gone 15 = .ok (.iaload, 1) := dq_46 (dst 15 rd_prog_14_method_67_code_0 rfl)
theorem dX12_gone_16 : decode cX12_gone 16 = .ok (.ifCond .eq 16, 3) := dq_153 (dst 16 rd_prog_14_method_67_code_0 rfl) (by decide +kernel)
theorem dX12_gone_19 : decode cX12_gone 19 = .ok (.aload_n 0, 1) := dq_42 (dst 19 rd_prog_14_method_67_code_0 rfl)
theorem dX12_gone_20 : decode cX12_gone 20 = .ok (.getfield 143, 3) := dq_180 (dst 20 rd_prog_14_method_67_code_0 rfl) rfl
theorem dX12_gone_23 : decode cX12_gone 23 = .ok (.iload_n 1, 1) := dq_27 (dst 23 rd_prog_14_method_67_code_0 rfl)
theorem dX12_gone_24 : decode cX12_gone 24 = .ok (.invokestatic 253, 3) := dq_184 (dst 24 rd_prog_14_method_67_code_0 rfl) rfl
theorem dX12_gone_27 : decode cX12_gone 27 = .ok (.bipush (-9), 2) := dq_16 (dst 27 rd_prog_14_method_67_code_0 rfl) (by decide +kernel)
theorem dX12_gone_29 : decode cX12_gone 29 = .ok (.if_icmp .ne 6, 3) := dq_160 (dst 29 rd_prog_14_method_67_code_0 rfl) (by decide +kernel)
theorem dX12_gone_32 : decode cX12_gone 32 = .ok (.bipush (-3), 2) := dq_16 (dst 0 rd_prog_14_method_67_code_1 rfl) (by decide +kernel)
theorem dX12_gone_34 : decode cX12_gone 34 = .ok (.ireturn, 1) := dq_172 (dst 2 rd_prog_14_method_67_code_1 rfl)
theorem dX12_gone_35 : decode cX12_gone 35 = .ok (.aload_n 0, 1) := dq_42 (dst 3 rd_prog_14_method_67_code_1 rfl)
theorem dX12_gone_36 : decode cX12_gone 36 = .ok (.getfield 47, 3) := dq_180 (dst 4 rd_prog_14_method_67_code_1 rfl) rfl
theorem dX12_gone_39 : decode cX12_gone 39 = .ok (.iconst 1, 1) := dq_4 (dst 7 rd_prog_14_method_67_code_1 rfl)
theorem dX12_gone_40 : decode cX12_gone 40 = .ok (.aload_n 0, 1) := dq_42 (dst 8 rd_prog_14_method_67_code_1 rfl)
theorem dX12_gone_41 : decode cX12_gone 41 = .ok (.getfield 143, 3) := dq_180 (dst 9 rd_prog_14_method_67_code_1 rfl) rfl
theorem dX12_gone_44 : decode cX12_gone 44 = .ok (.iload_n 1, 1) := dq_27 (dst 12 rd_prog_14_method_67_code_1 rfl)
theorem dX12_gone_45 : decode cX12_gone 45 = .ok (.invokestatic 253, 3) := dq_184 (dst 13 rd_prog_14_method_67_code_1 rfl) rfl
theorem dX12_gone_48 : decode cX12_gone 48 = .ok (.iastore, 1) := dq_79 (dst 16 rd_prog_14_method_67_code_1 rfl)
theorem dX12_gone_49 : decode cX12_gone 49 = .ok (.aload_n 0, 1) := dq_42 (dst 17 rd_prog_14_method_67_code_1 rfl)
theorem dX12_gone_50 : decode cX12_gone 50 = .ok (.getfield 47, 3) := dq_180 (dst 18 rd_prog_14_method_67_code_1 rfl) rfl
theorem dX12_gone_53 : decode cX12_gone 53 = .ok (.iconst 0, 1) := dq_3 (dst 21 rd_prog_14_method_67_code_1 rfl)
theorem dX12_gone_54 : decode cX12_gone 54 = .ok (.dup2, 1) := dq_92 (dst 22 rd_prog_14_method_67_code_1 rfl)
theorem dX12_gone_55 : decode cX12_gone 55 = .ok (.iaload, 1) := dq_46 (dst 23 rd_prog_14_method_67_code_1 rfl)
theorem dX12_gone_56 : decode cX12_gone 56 = .ok (.iconst 1, 1) := dq_4 (dst 24 rd_prog_14_method_67_code_1 rfl)
theorem dX12_gone_57 : decode cX12_gone 57 = .ok (.iadd, 1) := dq_96 (dst 25 rd_prog_14_method_67_code_1 rfl)
theorem dX12_gone_58 : decode cX12_gone 58 = .ok (.iastore, 1) := dq_79 (dst 26 rd_prog_14_method_67_code_1 rfl)
theorem dX12_gone_59 : decode cX12_gone 59 = .ok (.aload_n 0, 1) := dq_42 (dst 27 rd_prog_14_method_67_code_1 rfl)
theorem dX12_gone_60 : decode cX12_gone 60 = .ok (.getfield 47, 3) := dq_180 (dst 28 rd_prog_14_method_67_code_1 rfl) rfl
theorem dX12_gone_63 : decode cX12_gone 63 = .ok (.iconst 2, 1) := dq_5 (dst 31 rd_prog_14_method_67_code_1 rfl)
theorem dX12_gone_64 : decode cX12_gone 64 = .ok (.aload_n 0, 1) := dq_42 (dst 0 rd_prog_14_method_67_code_2 rfl)
theorem dX12_gone_65 : decode cX12_gone 65 = .ok (.getfield 140, 3) := dq_180 (dst 1 rd_prog_14_method_67_code_2 rfl) rfl
theorem dX12_gone_68 : decode cX12_gone 68 = .ok (.iastore, 1) := dq_79 (dst 4 rd_prog_14_method_67_code_2 rfl)
theorem dX12_gone_69 : decode cX12_gone 69 = .ok (.aload_n 0, 1) := dq_42 (dst 5 rd_prog_14_method_67_code_2 rfl)
theorem dX12_gone_70 : decode cX12_gone 70 = .ok (.getfield 47, 3) := dq_180 (dst 6 rd_prog_14_method_67_code_2 rfl) rfl
theorem dX12_gone_73 : decode cX12_gone 73 = .ok (.iconst 3, 1) := dq_6 (dst 9 rd_prog_14_method_67_code_2 rfl)
theorem dX12_gone_74 : decode cX12_gone 74 = .ok (.iconst 0, 1) := dq_3 (dst 10 rd_prog_14_method_67_code_2 rfl)
theorem dX12_gone_75 : decode cX12_gone 75 = .ok (.iastore, 1) := dq_79 (dst 11 rd_prog_14_method_67_code_2 rfl)
theorem dX12_gone_76 : decode cX12_gone 76 = .ok (.aload_n 0, 1) := dq_42 (dst 12 rd_prog_14_method_67_code_2 rfl)
theorem dX12_gone_77 : decode cX12_gone 77 = .ok (.getfield 47, 3) := dq_180 (dst 13 rd_prog_14_method_67_code_2 rfl) rfl
theorem dX12_gone_80 : decode cX12_gone 80 = .ok (.iconst 4, 1) := dq_7 (dst 16 rd_prog_14_method_67_code_2 rfl)
theorem dX12_gone_81 : decode cX12_gone 81 = .ok (.dup2, 1) := dq_92 (dst 17 rd_prog_14_method_67_code_2 rfl)
theorem dX12_gone_82 : decode cX12_gone 82 = .ok (.iaload, 1) := dq_46 (dst 18 rd_prog_14_method_67_code_2 rfl)
theorem dX12_gone_83 : decode cX12_gone 83 = .ok (.aload_n 0, 1) := dq_42 (dst 19 rd_prog_14_method_67_code_2 rfl)
theorem dX12_gone_84 : decode cX12_gone 84 = .ok (.aload_n 0, 1) := dq_42 (dst 20 rd_prog_14_method_67_code_2 rfl)
theorem dX12_gone_85 : decode cX12_gone 85 = .ok (.getfield 47, 3) := dq_180 (dst 21 rd_prog_14_method_67_code_2 rfl) rfl
theorem dX12_gone_88 : decode cX12_gone 88 = .ok (.iconst 0, 1) := dq_3 (dst 24 rd_prog_14_method_67_code_2 rfl)
theorem dX12_gone_89 : decode cX12_gone 89 = .ok (.iaload, 1) := dq_46 (dst 25 rd_prog_14_method_67_code_2 rfl)
theorem dX12_gone_90 : decode cX12_gone 90 = .ok (.invokevirtual 152, 3) := dq_182 (dst 26 rd_prog_14_method_67_code_2 rfl) rfl
theorem dX12_gone_93 : decode cX12_gone 93 = .ok (.ifCond .eq 7, 3) := dq_153 (dst 29 rd_prog_14_method_67_code_2 rfl) (by decide +kernel)
theorem dX12_gone_96 : decode cX12_gone 96 = .ok (.iconst 0, 1) := dq_3 (dst 0 rd_prog_14_method_67_code_3 rfl)
theorem dX12_gone_97 : decode cX12_gone 97 = .ok (.goto 13, 3) := dq_167 (dst 1 rd_prog_14_method_67_code_3 rfl) (by decide +kernel)
theorem dX12_gone_100 : decode cX12_gone 100 = .ok (.aload_n 0, 1) := dq_42 (dst 4 rd_prog_14_method_67_code_3 rfl)
theorem dX12_gone_101 : decode cX12_gone 101 = .ok (.aload_n 0, 1) := dq_42 (dst 5 rd_prog_14_method_67_code_3 rfl)
theorem dX12_gone_102 : decode cX12_gone 102 = .ok (.getfield 47, 3) := dq_180 (dst 6 rd_prog_14_method_67_code_3 rfl) rfl
theorem dX12_gone_105 : decode cX12_gone 105 = .ok (.iconst 1, 1) := dq_4 (dst 9 rd_prog_14_method_67_code_3 rfl)
theorem dX12_gone_106 : decode cX12_gone 106 = .ok (.iaload, 1) := dq_46 (dst 10 rd_prog_14_method_67_code_3 rfl)
theorem dX12_gone_107 : decode cX12_gone 107 = .ok (.invokevirtual 211, 3) := dq_182 (dst 11 rd_prog_14_method_67_code_3 rfl) rfl
theorem dX12_gone_110 : decode cX12_gone 110 = .ok (.iadd, 1) := dq_96 (dst 14 rd_prog_14_method_67_code_3 rfl)
theorem dX12_gone_111 : decode cX12_gone 111 = .ok (.iastore, 1) := dq_79 (dst 15 rd_prog_14_method_67_code_3 rfl)
theorem dX12_gone_112 : decode cX12_gone 112 = .ok (.aload_n 0, 1) := dq_42 (dst 16 rd_prog_14_method_67_code_3 rfl)
theorem dX12_gone_113 : decode cX12_gone 113 = .ok (.getfield 47, 3) := dq_180 (dst 17 rd_prog_14_method_67_code_3 rfl) rfl
theorem dX12_gone_116 : decode cX12_gone 116 = .ok (.iconst 1, 1) := dq_4 (dst 20 rd_prog_14_method_67_code_3 rfl)
theorem dX12_gone_117 : decode cX12_gone 117 = .ok (.iaload, 1) := dq_46 (dst 21 rd_prog_14_method_67_code_3 rfl)
theorem dX12_gone_118 : decode cX12_gone 118 = .ok (.invokestatic 160, 3) := dq_184 (dst 22 rd_prog_14_method_67_code_3 rfl) rfl
theorem dX12_gone_121 : decode cX12_gone 121 = .ok (.ireturn, 1) := dq_172 (dst 25 rd_prog_14_method_67_code_3 rfl)
theorem lf_X12_live_1 : ∀ w ∈ ([Cond.constantLong RX12 69 (4), Cond.fieldLink RX12 47 "StillInAugustModel" "live" "[I", Cond.methodLink RX12 73 yX12_in, Cond.static yX12_in, Cond.initialized RX12, Cond.code yX12_in cX12_in 6 (some .boolean)] : List Cond), w ∈ wsX12_live := fun _ h => (List.mem_cons_of_mem _ (List.mem_append_left _ h))
theorem lf_X12_live_2 : ∀ w ∈ wsX120, w ∈ wsX12_live := fun _ h => (List.mem_cons_of_mem _ (List.mem_append_right _ h))
set_option maxRecDepth 20000 in
theorem ggX12_live_X12_in : GoodIn wsX12_live wsX12_in := (gd_cons (lf_X12_live_1 _ (List.mem_of_getElem? (i := 5) rfl)) rfl (gd_nil _))
set_option maxRecDepth 20000 in
theorem gX12_live_X12_in : GoodIn wsX12_live (va_wsS RX12 73 yX12_in wsX12_in) := goodIn_app (gd_cons (lf_X12_live_1 _ (List.mem_of_getElem? (i := 2) rfl)) rfl (gd_cons (lf_X12_live_1 _ (List.mem_of_getElem? (i := 3) rfl)) rfl (gd_cons (lf_X12_live_1 _ (List.mem_of_getElem? (i := 4) rfl)) rfl (gd_nil _)))) ggX12_live_X12_in
theorem dX12_live_0 : decode cX12_live 0 = .ok (.iload_n 1, 1) := dq_27 (dst 0 rd_prog_14_method_68_code_0 rfl)
theorem dX12_live_1 : decode cX12_live 1 = .ok (.i2l, 1) := dq_133 (dst 1 rd_prog_14_method_68_code_0 rfl)
theorem dX12_live_2 : decode cX12_live 2 = .ok (.lconst 0, 1) := dq_9 (dst 2 rd_prog_14_method_68_code_0 rfl)
theorem dX12_live_3 : decode cX12_live 3 = .ok (.ldc2_w 69, 3) := dq_20 (dst 3 rd_prog_14_method_68_code_0 rfl) rfl
theorem dX12_live_6 : decode cX12_live 6 = .ok (.invokestatic 73, 3) := dq_184 (dst 6 rd_prog_14_method_68_code_0 rfl) rfl
theorem dX12_live_9 : decode cX12_live 9 = .ok (.ifCond .eq 12, 3) := dq_153 (dst 9 rd_prog_14_method_68_code_0 rfl) (by decide +kernel)
theorem dX12_live_12 : decode cX12_live 12 = .ok (.aload_n 0, 1) := dq_42 (dst 12 rd_prog_14_method_68_code_0 rfl)
theorem dX12_live_13 : decode cX12_live 13 = .ok (.getfield 47, 3) := dq_180 (dst 13 rd_prog_14_method_68_code_0 rfl) rfl
theorem dX12_live_16 : decode cX12_live 16 = .ok (.iload_n 1, 1) := dq_27 (dst 16 rd_prog_14_method_68_code_0 rfl)
theorem dX12_live_17 : decode cX12_live 17 = .ok (.iaload, 1) := dq_46 (dst 17 rd_prog_14_method_68_code_0 rfl)
theorem dX12_live_18 : decode cX12_live 18 = .ok (.goto 5, 3) := dq_167 (dst 18 rd_prog_14_method_68_code_0 rfl) (by decide +kernel)
theorem dX12_live_21 : decode cX12_live 21 = .ok (.bipush (-2), 2) := dq_16 (dst 21 rd_prog_14_method_68_code_0 rfl) (by decide +kernel)
theorem dX12_live_23 : decode cX12_live 23 = .ok (.ireturn, 1) := dq_172 (dst 23 rd_prog_14_method_68_code_0 rfl)
theorem lf_X12_keep_1 : ∀ w ∈ ([Cond.fieldLink RX12 50 "StillInAugustModel" "isKept" "[Z", Cond.fieldLink RX12 54 "StillInAugustModel" "kept" "[I", Cond.fieldLink RX12 47 "StillInAugustModel" "live" "[I", Cond.fieldLink RX12 140 "StillInAugustModel" "liveOrder" "I", Cond.fieldLink RX12 143 "StillInAugustModel" "liveDid" "I", Cond.methodLink RX12 73 yX12_in, Cond.static yX12_in, Cond.initialized RX12, Cond.code yX12_in cX12_in 6 (some .boolean)] : List Cond), w ∈ wsX12_keep := fun _ h => (List.mem_cons_of_mem _ (List.mem_append_left _ h))
theorem lf_X12_keep_2 : ∀ w ∈ wsX120, w ∈ wsX12_keep := fun _ h => (List.mem_cons_of_mem _ (List.mem_append_right _ h))
set_option maxRecDepth 20000 in
theorem ggX12_keep_X12_in : GoodIn wsX12_keep wsX12_in := (gd_cons (lf_X12_keep_1 _ (List.mem_of_getElem? (i := 8) rfl)) rfl (gd_nil _))
set_option maxRecDepth 20000 in
theorem gX12_keep_X12_in : GoodIn wsX12_keep (va_wsS RX12 73 yX12_in wsX12_in) := goodIn_app (gd_cons (lf_X12_keep_1 _ (List.mem_of_getElem? (i := 5) rfl)) rfl (gd_cons (lf_X12_keep_1 _ (List.mem_of_getElem? (i := 6) rfl)) rfl (gd_cons (lf_X12_keep_1 _ (List.mem_of_getElem? (i := 7) rfl)) rfl (gd_nil _)))) ggX12_keep_X12_in
theorem dX12_keep_0 : decode cX12_keep 0 = .ok (.iload_n 1, 1) := dq_27 (dst 0 rd_prog_14_method_69_code_0 rfl)
theorem dX12_keep_1 : decode cX12_keep 1 = .ok (.i2l, 1) := dq_133 (dst 1 rd_prog_14_method_69_code_0 rfl)
theorem dX12_keep_2 : decode cX12_keep 2 = .ok (.lconst 0, 1) := dq_9 (dst 2 rd_prog_14_method_69_code_0 rfl)
theorem dX12_keep_3 : decode cX12_keep 3 = .ok (.lconst 1, 1) := dq_10 (dst 3 rd_prog_14_method_69_code_0 rfl)
theorem dX12_keep_4 : decode cX12_keep 4 = .ok (.invokestatic 73, 3) := dq_184 (dst 4 rd_prog_14_method_69_code_0 rfl) rfl
theorem dX12_keep_7 : decode cX12_keep 7 = .ok (.ifCond .ne 5, 3) := dq_154 (dst 7 rd_prog_14_method_69_code_0 rfl) (by decide +kernel)
theorem dX12_keep_10 : decode cX12_keep 10 = .ok (.iconst (-1), 1) := dq_2 (dst 10 rd_prog_14_method_69_code_0 rfl)
theorem dX12_keep_11 : decode cX12_keep 11 = .ok (.ireturn, 1) := dq_172 (dst 11 rd_prog_14_method_69_code_0 rfl)
theorem dX12_keep_12 : decode cX12_keep 12 = .ok (.aload_n 0, 1) := dq_42 (dst 12 rd_prog_14_method_69_code_0 rfl)
theorem dX12_keep_13 : decode cX12_keep 13 = .ok (.getfield 50, 3) := dq_180 (dst 13 rd_prog_14_method_69_code_0 rfl) rfl
theorem dX12_keep_16 : decode cX12_keep 16 = .ok (.iload_n 1, 1) := dq_27 (dst 16 rd_prog_14_method_69_code_0 rfl)
theorem dX12_keep_17 : decode cX12_keep 17 = .ok (.baload, 1) := dq_51 (dst 17 rd_prog_14_method_69_code_0 rfl)
theorem dX12_keep_18 : decode cX12_keep 18 = .ok (.ifCond .eq 7, 3) := dq_153 (dst 18 rd_prog_14_method_69_code_0 rfl) (by decide +kernel)
theorem dX12_keep_21 : decode cX12_keep 21 = .ok (.iconst 0, 1) := dq_3 (dst 21 rd_prog_14_method_69_code_0 rfl)
theorem dX12_keep_22 : decode cX12_keep 22 = .ok (.goto 4, 3) := dq_167 (dst 22 rd_prog_14_method_69_code_0 rfl) (by decide +kernel)
theorem dX12_keep_25 : decode cX12_keep 25 = .ok (.iconst 1, 1) := dq_4 (dst 25 rd_prog_14_method_69_code_0 rfl)
theorem dX12_keep_26 : decode cX12_keep 26 = .ok (.istore_n 2, 1) := dq_61 (dst 26 rd_prog_14_method_69_code_0 rfl)
theorem dX12_keep_27 : decode cX12_keep 27 = .ok (.aload_n 0, 1) := dq_42 (dst 27 rd_prog_14_method_69_code_0 rfl)
theorem dX12_keep_28 : decode cX12_keep 28 = .ok (.getfield 50, 3) := dq_180 (dst 28 rd_prog_14_method_69_code_0 rfl) rfl
theorem dX12_keep_31 : decode cX12_keep 31 = .ok (.iload_n 1, 1) := dq_27 (dst 31 rd_prog_14_method_69_code_0 rfl)
theorem dX12_keep_32 : decode cX12_keep 32 = .ok (.iconst 1, 1) := dq_4 (dst 0 rd_prog_14_method_69_code_1 rfl)
theorem dX12_keep_33 : decode cX12_keep 33 = .ok (.bastore, 1) := dq_84 (dst 1 rd_prog_14_method_69_code_1 rfl)
theorem dX12_keep_34 : decode cX12_keep 34 = .ok (.iconst 0, 1) := dq_3 (dst 2 rd_prog_14_method_69_code_1 rfl)
theorem dX12_keep_35 : decode cX12_keep 35 = .ok (.istore_n 3, 1) := dq_62 (dst 3 rd_prog_14_method_69_code_1 rfl)
theorem dX12_keep_36 : decode cX12_keep 36 = .ok (.iload_n 3, 1) := dq_29 (dst 4 rd_prog_14_method_69_code_1 rfl)
theorem dX12_keep_37 : decode cX12_keep 37 = .ok (.iconst 5, 1) := dq_8 (dst 5 rd_prog_14_method_69_code_1 rfl)
theorem dX12_keep_38 : decode cX12_keep 38 = .ok (.if_icmp .ge 26, 3) := dq_162 (dst 6 rd_prog_14_method_69_code_1 rfl) (by decide +kernel)
theorem dX12_keep_41 : decode cX12_keep 41 = .ok (.aload_n 0, 1) := dq_42 (dst 9 rd_prog_14_method_69_code_1 rfl)
theorem dX12_keep_42 : decode cX12_keep 42 = .ok (.getfield 54, 3) := dq_180 (dst 10 rd_prog_14_method_69_code_1 rfl) rfl
theorem dX12_keep_45 : decode cX12_keep 45 = .ok (.bipush 7, 2) := dq_16 (dst 13 rd_prog_14_method_69_code_1 rfl) (by decide +kernel)
theorem dX12_keep_47 : decode cX12_keep 47 = .ok (.iload_n 1, 1) := dq_27 (dst 15 rd_prog_14_method_69_code_1 rfl)
theorem dX12_keep_48 : decode cX12_keep 48 = .ok (.imul, 1) := dq_104 (dst 16 rd_prog_14_method_69_code_1 rfl)
theorem dX12_keep_49 : decode cX12_keep 49 = .ok (.iload_n 3, 1) := dq_29 (dst 17 rd_prog_14_method_69_code_1 rfl)
theorem dX12_keep_50 : decode cX12_keep 50 = .ok (.iadd, 1) := dq_96 (dst 18 rd_prog_14_method_69_code_1 rfl)
theorem dX12_keep_51 : decode cX12_keep 51 = .ok (.aload_n 0, 1) := dq_42 (dst 19 rd_prog_14_method_69_code_1 rfl)
theorem dX12_keep_52 : decode cX12_keep 52 = .ok (.getfield 47, 3) := dq_180 (dst 20 rd_prog_14_method_69_code_1 rfl) rfl
theorem dX12_keep_55 : decode cX12_keep 55 = .ok (.iload_n 3, 1) := dq_29 (dst 23 rd_prog_14_method_69_code_1 rfl)
theorem dX12_keep_56 : decode cX12_keep 56 = .ok (.iaload, 1) := dq_46 (dst 24 rd_prog_14_method_69_code_1 rfl)
theorem dX12_keep_57 : decode cX12_keep 57 = .ok (.iastore, 1) := dq_79 (dst 25 rd_prog_14_method_69_code_1 rfl)
theorem dX12_keep_58 : decode cX12_keep 58 = .ok (.iinc 3 1, 3) := dq_132 (dst 26 rd_prog_14_method_69_code_1 rfl) rfl (by decide +kernel)
theorem dX12_keep_61 : decode cX12_keep 61 = .ok (.goto (-25), 3) := dq_167 (dst 29 rd_prog_14_method_69_code_1 rfl) (by decide +kernel)
theorem dX12_keep_64 : decode cX12_keep 64 = .ok (.aload_n 0, 1) := dq_42 (dst 0 rd_prog_14_method_69_code_2 rfl)
theorem dX12_keep_65 : decode cX12_keep 65 = .ok (.getfield 54, 3) := dq_180 (dst 1 rd_prog_14_method_69_code_2 rfl) rfl
theorem dX12_keep_68 : decode cX12_keep 68 = .ok (.bipush 7, 2) := dq_16 (dst 4 rd_prog_14_method_69_code_2 rfl) (by decide +kernel)
theorem dX12_keep_70 : decode cX12_keep 70 = .ok (.iload_n 1, 1) := dq_27 (dst 6 rd_prog_14_method_69_code_2 rfl)
theorem dX12_keep_71 : decode cX12_keep 71 = .ok (.imul, 1) := dq_104 (dst 7 rd_prog_14_method_69_code_2 rfl)
theorem dX12_keep_72 : decode cX12_keep 72 = .ok (.iconst 5, 1) := dq_8 (dst 8 rd_prog_14_method_69_code_2 rfl)
theorem dX12_keep_73 : decode cX12_keep 73 = .ok (.iadd, 1) := dq_96 (dst 9 rd_prog_14_method_69_code_2 rfl)
theorem dX12_keep_74 : decode cX12_keep 74 = .ok (.aload_n 0, 1) := dq_42 (dst 10 rd_prog_14_method_69_code_2 rfl)
theorem dX12_keep_75 : decode cX12_keep 75 = .ok (.getfield 140, 3) := dq_180 (dst 11 rd_prog_14_method_69_code_2 rfl) rfl
theorem dX12_keep_78 : decode cX12_keep 78 = .ok (.iastore, 1) := dq_79 (dst 14 rd_prog_14_method_69_code_2 rfl)
theorem dX12_keep_79 : decode cX12_keep 79 = .ok (.aload_n 0, 1) := dq_42 (dst 15 rd_prog_14_method_69_code_2 rfl)
theorem dX12_keep_80 : decode cX12_keep 80 = .ok (.getfield 54, 3) := dq_180 (dst 16 rd_prog_14_method_69_code_2 rfl) rfl
theorem dX12_keep_83 : decode cX12_keep 83 = .ok (.bipush 7, 2) := dq_16 (dst 19 rd_prog_14_method_69_code_2 rfl) (by decide +kernel)
theorem dX12_keep_85 : decode cX12_keep 85 = .ok (.iload_n 1, 1) := dq_27 (dst 21 rd_prog_14_method_69_code_2 rfl)
theorem dX12_keep_86 : decode cX12_keep 86 = .ok (.imul, 1) := dq_104 (dst 22 rd_prog_14_method_69_code_2 rfl)
theorem dX12_keep_87 : decode cX12_keep 87 = .ok (.bipush 6, 2) := dq_16 (dst 23 rd_prog_14_method_69_code_2 rfl) (by decide +kernel)
theorem dX12_keep_89 : decode cX12_keep 89 = .ok (.iadd, 1) := dq_96 (dst 25 rd_prog_14_method_69_code_2 rfl)
theorem dX12_keep_90 : decode cX12_keep 90 = .ok (.aload_n 0, 1) := dq_42 (dst 26 rd_prog_14_method_69_code_2 rfl)
theorem dX12_keep_91 : decode cX12_keep 91 = .ok (.getfield 143, 3) := dq_180 (dst 27 rd_prog_14_method_69_code_2 rfl) rfl
theorem dX12_keep_94 : decode cX12_keep 94 = .ok (.iastore, 1) := dq_79 (dst 30 rd_prog_14_method_69_code_2 rfl)
theorem dX12_keep_95 : decode cX12_keep 95 = .ok (.iload_n 2, 1) := dq_28 (dst 31 rd_prog_14_method_69_code_2 rfl)
theorem dX12_keep_96 : decode cX12_keep 96 = .ok (.ireturn, 1) := dq_172 (dst 0 rd_prog_14_method_69_code_3 rfl)
theorem lf_X12_again_1 : ∀ w ∈ ([Cond.fieldLink RX12 50 "StillInAugustModel" "isKept" "[Z", Cond.fieldLink RX12 47 "StillInAugustModel" "live" "[I", Cond.fieldLink RX12 54 "StillInAugustModel" "kept" "[I", Cond.fieldLink RX12 140 "StillInAugustModel" "liveOrder" "I", Cond.fieldLink RX12 143 "StillInAugustModel" "liveDid" "I", Cond.methodLink RX12 73 yX12_in, Cond.static yX12_in, Cond.initialized RX12, Cond.code yX12_in cX12_in 6 (some .boolean)] : List Cond), w ∈ wsX12_again := fun _ h => (List.mem_cons_of_mem _ (List.mem_append_left _ h))
theorem lf_X12_again_2 : ∀ w ∈ wsX120, w ∈ wsX12_again := fun _ h => (List.mem_cons_of_mem _ (List.mem_append_right _ h))
set_option maxRecDepth 20000 in
theorem ggX12_again_X12_in : GoodIn wsX12_again wsX12_in := (gd_cons (lf_X12_again_1 _ (List.mem_of_getElem? (i := 8) rfl)) rfl (gd_nil _))
set_option maxRecDepth 20000 in
theorem gX12_again_X12_in : GoodIn wsX12_again (va_wsS RX12 73 yX12_in wsX12_in) := goodIn_app (gd_cons (lf_X12_again_1 _ (List.mem_of_getElem? (i := 5) rfl)) rfl (gd_cons (lf_X12_again_1 _ (List.mem_of_getElem? (i := 6) rfl)) rfl (gd_cons (lf_X12_again_1 _ (List.mem_of_getElem? (i := 7) rfl)) rfl (gd_nil _)))) ggX12_again_X12_in
theorem dX12_again_0 : decode cX12_again 0 = .ok (.iload_n 1, 1) := dq_27 (dst 0 rd_prog_14_method_70_code_0 rfl)
theorem dX12_again_1 : decode cX12_again 1 = .ok (.i2l, 1) := dq_133 (dst 1 rd_prog_14_method_70_code_0 rfl)
theorem dX12_again_2 : decode cX12_again 2 = .ok (.lconst 0, 1) := dq_9 (dst 2 rd_prog_14_method_70_code_0 rfl)
theorem dX12_again_3 : decode cX12_again 3 = .ok (.lconst 1, 1) := dq_10 (dst 3 rd_prog_14_method_70_code_0 rfl)
theorem dX12_again_4 : decode cX12_again 4 = .ok (.invokestatic 73, 3) := dq_184 (dst 4 rd_prog_14_method_70_code_0 rfl) rfl
theorem dX12_again_7 : decode cX12_again 7 = .ok (.ifCond .ne 5, 3) := dq_154 (dst 7 rd_prog_14_method_70_code_0 rfl) (by decide +kernel)
theorem dX12_again_10 : decode cX12_again 10 = .ok (.iconst (-1), 1) := dq_2 (dst 10 rd_prog_14_method_70_code_0 rfl)
theorem dX12_again_11 : decode cX12_again 11 = .ok (.ireturn, 1) := dq_172 (dst 11 rd_prog_14_method_70_code_0 rfl)
theorem dX12_again_12 : decode cX12_again 12 = .ok (.aload_n 0, 1) := dq_42 (dst 12 rd_prog_14_method_70_code_0 rfl)
theorem dX12_again_13 : decode cX12_again 13 = .ok (.getfield 50, 3) := dq_180 (dst 13 rd_prog_14_method_70_code_0 rfl) rfl
theorem dX12_again_16 : decode cX12_again 16 = .ok (.iload_n 1, 1) := dq_27 (dst 16 rd_prog_14_method_70_code_0 rfl)
theorem dX12_again_17 : decode cX12_again 17 = .ok (.baload, 1) := dq_51 (dst 17 rd_prog_14_method_70_code_0 rfl)
theorem dX12_again_18 : decode cX12_again 18 = .ok (.ifCond .ne 6, 3) := dq_154 (dst 18 rd_prog_14_method_70_code_0 rfl) (by decide +kernel)
theorem dX12_again_21 : decode cX12_again 21 = .ok (.bipush (-3), 2) := dq_16 (dst 21 rd_prog_14_method_70_code_0 rfl) (by decide +kernel)
theorem dX12_again_23 : decode cX12_again 23 = .ok (.ireturn, 1) := dq_172 (dst 23 rd_prog_14_method_70_code_0 rfl)
theorem dX12_again_24 : decode cX12_again 24 = .ok (.iconst 0, 1) := dq_3 (dst 24 rd_prog_14_method_70_code_0 rfl)
theorem dX12_again_25 : decode cX12_again 25 = .ok (.istore_n 2, 1) := dq_61 (dst 25 rd_prog_14_method_70_code_0 rfl)
theorem dX12_again_26 : decode cX12_again 26 = .ok (.iload_n 2, 1) := dq_28 (dst 26 rd_prog_14_method_70_code_0 rfl)
theorem dX12_again_27 : decode cX12_again 27 = .ok (.iconst 5, 1) := dq_8 (dst 27 rd_prog_14_method_70_code_0 rfl)
theorem dX12_again_28 : decode cX12_again 28 = .ok (.if_icmp .ge 26, 3) := dq_162 (dst 28 rd_prog_14_method_70_code_0 rfl) (by decide +kernel)
theorem dX12_again_31 : decode cX12_again 31 = .ok (.aload_n 0, 1) := dq_42 (dst 31 rd_prog_14_method_70_code_0 rfl)
theorem dX12_again_32 : decode cX12_again 32 = .ok (.getfield 47, 3) := dq_180 (dst 0 rd_prog_14_method_70_code_1 rfl) rfl
theorem dX12_again_35 : decode cX12_again 35 = .ok (.iload_n 2, 1) := dq_28 (dst 3 rd_prog_14_method_70_code_1 rfl)
theorem dX12_again_36 : decode cX12_again 36 = .ok (.aload_n 0, 1) := dq_42 (dst 4 rd_prog_14_method_70_code_1 rfl)
theorem dX12_again_37 : decode cX12_again 37 = .ok (.getfield 54, 3) := dq_180 (dst 5 rd_prog_14_method_70_code_1 rfl) rfl
theorem dX12_again_40 : decode cX12_again 40 = .ok (.bipush 7, 2) := dq_16 (dst 8 rd_prog_14_method_70_code_1 rfl) (by decide +kernel)
theorem dX12_again_42 : decode cX12_again 42 = .ok (.iload_n 1, 1) := dq_27 (dst 10 rd_prog_14_method_70_code_1 rfl)
theorem dX12_again_43 : decode cX12_again 43 = .ok (.imul, 1) := dq_104 (dst 11 rd_prog_14_method_70_code_1 rfl)
theorem dX12_again_44 : decode cX12_again 44 = .ok (.iload_n 2, 1) := dq_28 (dst 12 rd_prog_14_method_70_code_1 rfl)
theorem dX12_again_45 : decode cX12_again 45 = .ok (.iadd, 1) := dq_96 (dst 13 rd_prog_14_method_70_code_1 rfl)
theorem dX12_again_46 : decode cX12_again 46 = .ok (.iaload, 1) := dq_46 (dst 14 rd_prog_14_method_70_code_1 rfl)
theorem dX12_again_47 : decode cX12_again 47 = .ok (.iastore, 1) := dq_79 (dst 15 rd_prog_14_method_70_code_1 rfl)
theorem dX12_again_48 : decode cX12_again 48 = .ok (.iinc 2 1, 3) := dq_132 (dst 16 rd_prog_14_method_70_code_1 rfl) rfl (by decide +kernel)
theorem dX12_again_51 : decode cX12_again 51 = .ok (.goto (-25), 3) := dq_167 (dst 19 rd_prog_14_method_70_code_1 rfl) (by decide +kernel)
theorem dX12_again_54 : decode cX12_again 54 = .ok (.aload_n 0, 1) := dq_42 (dst 22 rd_prog_14_method_70_code_1 rfl)
theorem dX12_again_55 : decode cX12_again 55 = .ok (.aload_n 0, 1) := dq_42 (dst 23 rd_prog_14_method_70_code_1 rfl)
theorem dX12_again_56 : decode cX12_again 56 = .ok (.getfield 54, 3) := dq_180 (dst 24 rd_prog_14_method_70_code_1 rfl) rfl
theorem dX12_again_59 : decode cX12_again 59 = .ok (.bipush 7, 2) := dq_16 (dst 27 rd_prog_14_method_70_code_1 rfl) (by decide +kernel)
theorem dX12_again_61 : decode cX12_again 61 = .ok (.iload_n 1, 1) := dq_27 (dst 29 rd_prog_14_method_70_code_1 rfl)
theorem dX12_again_62 : decode cX12_again 62 = .ok (.imul, 1) := dq_104 (dst 30 rd_prog_14_method_70_code_1 rfl)
theorem dX12_again_63 : decode cX12_again 63 = .ok (.iconst 5, 1) := dq_8 (dst 31 rd_prog_14_method_70_code_1 rfl)
theorem dX12_again_64 : decode cX12_again 64 = .ok (.iadd, 1) := dq_96 (dst 0 rd_prog_14_method_70_code_2 rfl)
theorem dX12_again_65 : decode cX12_again 65 = .ok (.iaload, 1) := dq_46 (dst 1 rd_prog_14_method_70_code_2 rfl)
theorem dX12_again_66 : decode cX12_again 66 = .ok (.putfield 140, 3) := dq_181 (dst 2 rd_prog_14_method_70_code_2 rfl) rfl
theorem dX12_again_69 : decode cX12_again 69 = .ok (.aload_n 0, 1) := dq_42 (dst 5 rd_prog_14_method_70_code_2 rfl)
theorem dX12_again_70 : decode cX12_again 70 = .ok (.aload_n 0, 1) := dq_42 (dst 6 rd_prog_14_method_70_code_2 rfl)
theorem dX12_again_71 : decode cX12_again 71 = .ok (.getfield 54, 3) := dq_180 (dst 7 rd_prog_14_method_70_code_2 rfl) rfl
theorem dX12_again_74 : decode cX12_again 74 = .ok (.bipush 7, 2) := dq_16 (dst 10 rd_prog_14_method_70_code_2 rfl) (by decide +kernel)
theorem dX12_again_76 : decode cX12_again 76 = .ok (.iload_n 1, 1) := dq_27 (dst 12 rd_prog_14_method_70_code_2 rfl)
theorem dX12_again_77 : decode cX12_again 77 = .ok (.imul, 1) := dq_104 (dst 13 rd_prog_14_method_70_code_2 rfl)
theorem dX12_again_78 : decode cX12_again 78 = .ok (.bipush 6, 2) := dq_16 (dst 14 rd_prog_14_method_70_code_2 rfl) (by decide +kernel)
theorem dX12_again_80 : decode cX12_again 80 = .ok (.iadd, 1) := dq_96 (dst 16 rd_prog_14_method_70_code_2 rfl)
theorem dX12_again_81 : decode cX12_again 81 = .ok (.iaload, 1) := dq_46 (dst 17 rd_prog_14_method_70_code_2 rfl)
theorem dX12_again_82 : decode cX12_again 82 = .ok (.putfield 143, 3) := dq_181 (dst 18 rd_prog_14_method_70_code_2 rfl) rfl
theorem dX12_again_85 : decode cX12_again 85 = .ok (.aload_n 0, 1) := dq_42 (dst 21 rd_prog_14_method_70_code_2 rfl)
theorem dX12_again_86 : decode cX12_again 86 = .ok (.getfield 47, 3) := dq_180 (dst 22 rd_prog_14_method_70_code_2 rfl) rfl
theorem dX12_again_89 : decode cX12_again 89 = .ok (.iconst 0, 1) := dq_3 (dst 25 rd_prog_14_method_70_code_2 rfl)
theorem dX12_again_90 : decode cX12_again 90 = .ok (.iaload, 1) := dq_46 (dst 26 rd_prog_14_method_70_code_2 rfl)
theorem dX12_again_91 : decode cX12_again 91 = .ok (.ireturn, 1) := dq_172 (dst 27 rd_prog_14_method_70_code_2 rfl)
theorem lf_X12_tell_1 : ∀ w ∈ ([Cond.constantLong RX12 256 (9999), Cond.fieldLink RX12 258 "StillInAugustModel" "rows" "I", Cond.fieldLink RX12 57 "StillInAugustModel" "rowAct" "[I", Cond.fieldLink RX12 60 "StillInAugustModel" "rowGone" "[I", Cond.methodLink RX12 73 yX12_in, Cond.static yX12_in, Cond.initialized RX12, Cond.code yX12_in cX12_in 6 (some .boolean), Cond.methodLink RX12 250 yX12_isGone, Cond.static yX12_isGone, Cond.code yX12_isGone cX12_isGone 1 (some .boolean), Cond.constantLong RX12 248 (444)] : List Cond), w ∈ wsX12_tell := fun _ h => (List.mem_cons_of_mem _ (List.mem_append_left _ h))
theorem lf_X12_tell_2 : ∀ w ∈ wsX120, w ∈ wsX12_tell := fun _ h => (List.mem_cons_of_mem _ (List.mem_append_right _ h))
set_option maxRecDepth 20000 in
theorem ggX12_tell_X12_in : GoodIn wsX12_tell wsX12_in := (gd_cons (lf_X12_tell_1 _ (List.mem_of_getElem? (i := 7) rfl)) rfl (gd_nil _))
set_option maxRecDepth 20000 in
theorem gX12_tell_X12_in : GoodIn wsX12_tell (va_wsS RX12 73 yX12_in wsX12_in) := goodIn_app (gd_cons (lf_X12_tell_1 _ (List.mem_of_getElem? (i := 4) rfl)) rfl (gd_cons (lf_X12_tell_1 _ (List.mem_of_getElem? (i := 5) rfl)) rfl (gd_cons (lf_X12_tell_1 _ (List.mem_of_getElem? (i := 6) rfl)) rfl (gd_nil _)))) ggX12_tell_X12_in
set_option maxRecDepth 20000 in
theorem ggX12_tell_X12_isGone : GoodIn wsX12_tell wsX12_isGone := (gd_cons (lf_X12_tell_1 _ (List.mem_of_getElem? (i := 10) rfl)) rfl (gd_cons (lf_X12_tell_1 _ (List.mem_of_getElem? (i := 11) rfl)) rfl (gd_cons (lf_X12_tell_1 _ (List.mem_of_getElem? (i := 4) rfl)) rfl (gd_cons (lf_X12_tell_1 _ (List.mem_of_getElem? (i := 5) rfl)) rfl (gd_cons (lf_X12_tell_1 _ (List.mem_of_getElem? (i := 6) rfl)) rfl (gd_cons (lf_X12_tell_1 _ (List.mem_of_getElem? (i := 7) rfl)) rfl (gd_nil _)))))))
set_option maxRecDepth 20000 in
theorem gX12_tell_X12_isGone : GoodIn wsX12_tell (va_wsS RX12 250 yX12_isGone wsX12_isGone) := goodIn_app (gd_cons (lf_X12_tell_1 _ (List.mem_of_getElem? (i := 8) rfl)) rfl (gd_cons (lf_X12_tell_1 _ (List.mem_of_getElem? (i := 9) rfl)) rfl (gd_cons (lf_X12_tell_1 _ (List.mem_of_getElem? (i := 6) rfl)) rfl (gd_nil _)))) ggX12_tell_X12_isGone
theorem dX12_tell_0 : decode cX12_tell 0 = .ok (.iload_n 1, 1) := dq_27 (dst 0 rd_prog_14_method_71_code_0 rfl)
theorem dX12_tell_1 : decode cX12_tell 1 = .ok (.i2l, 1) := dq_133 (dst 1 rd_prog_14_method_71_code_0 rfl)
theorem dX12_tell_2 : decode cX12_tell 2 = .ok (.lconst 0, 1) := dq_9 (dst 2 rd_prog_14_method_71_code_0 rfl)
theorem dX12_tell_3 : decode cX12_tell 3 = .ok (.ldc2_w 256, 3) := dq_20 (dst 3 rd_prog_14_method_71_code_0 rfl) rfl
theorem dX12_tell_6 : decode cX12_tell 6 = .ok (.invokestatic 73, 3) := dq_184 (dst 6 rd_prog_14_method_71_code_0 rfl) rfl
theorem dX12_tell_9 : decode cX12_tell 9 = .ok (.ifCond .eq 10, 3) := dq_153 (dst 9 rd_prog_14_method_71_code_0 rfl) (by decide +kernel)
theorem dX12_tell_12 : decode cX12_tell 12 = .ok (.iload_n 2, 1) := dq_28 (dst 12 rd_prog_14_method_71_code_0 rfl)
theorem dX12_tell_13 : decode cX12_tell 13 = .ok (.invokestatic 250, 3) := dq_184 (dst 13 rd_prog_14_method_71_code_0 rfl) rfl
theorem dX12_tell_16 : decode cX12_tell 16 = .ok (.ifCond .ne 6, 3) := dq_154 (dst 16 rd_prog_14_method_71_code_0 rfl) (by decide +kernel)
theorem dX12_tell_19 : decode cX12_tell 19 = .ok (.bipush (-2), 2) := dq_16 (dst 19 rd_prog_14_method_71_code_0 rfl) (by decide +kernel)
theorem dX12_tell_21 : decode cX12_tell 21 = .ok (.ireturn, 1) := dq_172 (dst 21 rd_prog_14_method_71_code_0 rfl)
theorem dX12_tell_22 : decode cX12_tell 22 = .ok (.aload_n 0, 1) := dq_42 (dst 22 rd_prog_14_method_71_code_0 rfl)
theorem dX12_tell_23 : decode cX12_tell 23 = .ok (.getfield 258, 3) := dq_180 (dst 23 rd_prog_14_method_71_code_0 rfl) rfl
theorem dX12_tell_26 : decode cX12_tell 26 = .ok (.iconst 5, 1) := dq_8 (dst 26 rd_prog_14_method_71_code_0 rfl)
theorem dX12_tell_27 : decode cX12_tell 27 = .ok (.if_icmp .ne 6, 3) := dq_160 (dst 27 rd_prog_14_method_71_code_0 rfl) (by decide +kernel)
theorem dX12_tell_30 : decode cX12_tell 30 = .ok (.bipush (-4), 2) := dq_16 (dst 30 rd_prog_14_method_71_code_0 rfl) (by decide +kernel)
theorem dX12_tell_32 : decode cX12_tell 32 = .ok (.ireturn, 1) := dq_172 (dst 0 rd_prog_14_method_71_code_1 rfl)
theorem dX12_tell_33 : decode cX12_tell 33 = .ok (.aload_n 0, 1) := dq_42 (dst 1 rd_prog_14_method_71_code_1 rfl)
theorem dX12_tell_34 : decode cX12_tell 34 = .ok (.getfield 57, 3) := dq_180 (dst 2 rd_prog_14_method_71_code_1 rfl) rfl
theorem dX12_tell_37 : decode cX12_tell 37 = .ok (.aload_n 0, 1) := dq_42 (dst 5 rd_prog_14_method_71_code_1 rfl)
theorem dX12_tell_38 : decode cX12_tell 38 = .ok (.getfield 258, 3) := dq_180 (dst 6 rd_prog_14_method_71_code_1 rfl) rfl
theorem dX12_tell_41 : decode cX12_tell 41 = .ok (.iload_n 1, 1) := dq_27 (dst 9 rd_prog_14_method_71_code_1 rfl)
theorem dX12_tell_42 : decode cX12_tell 42 = .ok (.iastore, 1) := dq_79 (dst 10 rd_prog_14_method_71_code_1 rfl)
theorem dX12_tell_43 : decode cX12_tell 43 = .ok (.aload_n 0, 1) := dq_42 (dst 11 rd_prog_14_method_71_code_1 rfl)
theorem dX12_tell_44 : decode cX12_tell 44 = .ok (.getfield 60, 3) := dq_180 (dst 12 rd_prog_14_method_71_code_1 rfl) rfl
theorem dX12_tell_47 : decode cX12_tell 47 = .ok (.aload_n 0, 1) := dq_42 (dst 15 rd_prog_14_method_71_code_1 rfl)
theorem dX12_tell_48 : decode cX12_tell 48 = .ok (.getfield 258, 3) := dq_180 (dst 16 rd_prog_14_method_71_code_1 rfl) rfl
theorem dX12_tell_51 : decode cX12_tell 51 = .ok (.iload_n 2, 1) := dq_28 (dst 19 rd_prog_14_method_71_code_1 rfl)
theorem dX12_tell_52 : decode cX12_tell 52 = .ok (.iastore, 1) := dq_79 (dst 20 rd_prog_14_method_71_code_1 rfl)
theorem dX12_tell_53 : decode cX12_tell 53 = .ok (.aload_n 0, 1) := dq_42 (dst 21 rd_prog_14_method_71_code_1 rfl)
theorem dX12_tell_54 : decode cX12_tell 54 = .ok (.dup, 1) := dq_89 (dst 22 rd_prog_14_method_71_code_1 rfl)
theorem dX12_tell_55 : decode cX12_tell 55 = .ok (.getfield 258, 3) := dq_180 (dst 23 rd_prog_14_method_71_code_1 rfl) rfl
theorem dX12_tell_58 : decode cX12_tell 58 = .ok (.iconst 1, 1) := dq_4 (dst 26 rd_prog_14_method_71_code_1 rfl)
theorem dX12_tell_59 : decode cX12_tell 59 = .ok (.iadd, 1) := dq_96 (dst 27 rd_prog_14_method_71_code_1 rfl)
theorem dX12_tell_60 : decode cX12_tell 60 = .ok (.putfield 258, 3) := dq_181 (dst 28 rd_prog_14_method_71_code_1 rfl) rfl
theorem dX12_tell_63 : decode cX12_tell 63 = .ok (.aload_n 0, 1) := dq_42 (dst 31 rd_prog_14_method_71_code_1 rfl)
theorem dX12_tell_64 : decode cX12_tell 64 = .ok (.getfield 258, 3) := dq_180 (dst 0 rd_prog_14_method_71_code_2 rfl) rfl
theorem dX12_tell_67 : decode cX12_tell 67 = .ok (.ireturn, 1) := dq_172 (dst 3 rd_prog_14_method_71_code_2 rfl)
theorem dX12_untell_0 : decode cX12_untell 0 = .ok (.aload_n 0, 1) := dq_42 (dst 0 rd_prog_14_method_72_code_0 rfl)
theorem dX12_untell_1 : decode cX12_untell 1 = .ok (.getfield 258, 3) := dq_180 (dst 1 rd_prog_14_method_72_code_0 rfl) rfl
theorem dX12_untell_4 : decode cX12_untell 4 = .ok (.istore_n 1, 1) := dq_60 (dst 4 rd_prog_14_method_72_code_0 rfl)
theorem dX12_untell_5 : decode cX12_untell 5 = .ok (.aload_n 0, 1) := dq_42 (dst 5 rd_prog_14_method_72_code_0 rfl)
theorem dX12_untell_6 : decode cX12_untell 6 = .ok (.iconst 0, 1) := dq_3 (dst 6 rd_prog_14_method_72_code_0 rfl)
theorem dX12_untell_7 : decode cX12_untell 7 = .ok (.putfield 258, 3) := dq_181 (dst 7 rd_prog_14_method_72_code_0 rfl) rfl
theorem dX12_untell_10 : decode cX12_untell 10 = .ok (.iload_n 1, 1) := dq_27 (dst 10 rd_prog_14_method_72_code_0 rfl)
theorem dX12_untell_11 : decode cX12_untell 11 = .ok (.ireturn, 1) := dq_172 (dst 11 rd_prog_14_method_72_code_0 rfl)
theorem lf_X12_goThrough_1 : ∀ w ∈ wsX12_goThrough_r1, w ∈ wsX12_goThrough := fun _ h => (List.mem_cons_of_mem _ (List.mem_append_left _ (List.mem_append_left _ h)))
theorem lf_X12_goThrough_2 : ∀ w ∈ wsX12_goThrough_r2, w ∈ wsX12_goThrough := fun _ h => (List.mem_cons_of_mem _ (List.mem_append_left _ (List.mem_append_right _ (List.mem_append_left _ h))))
theorem lf_X12_goThrough_3 : ∀ w ∈ wsX12_goThrough_r3, w ∈ wsX12_goThrough := fun _ h => (List.mem_cons_of_mem _ (List.mem_append_left _ (List.mem_append_right _ (List.mem_append_right _ h))))
theorem lf_X12_goThrough_4 : ∀ w ∈ wsX120, w ∈ wsX12_goThrough := fun _ h => (List.mem_cons_of_mem _ (List.mem_append_right _ h))
set_option maxRecDepth 20000 in
theorem ggX12_goThrough_X12_isWeek : GoodIn wsX12_goThrough wsX12_isWeek := (gd_cons (lf_X12_goThrough_1 _ (List.mem_of_getElem? (i := 12) rfl)) rfl (goodIn_app (gd_cons (lf_X12_goThrough_1 _ (List.mem_of_getElem? (i := 7) rfl)) rfl (gd_cons (lf_X12_goThrough_1 _ (List.mem_of_getElem? (i := 13) rfl)) rfl (gd_cons (lf_X12_goThrough_1 _ (List.mem_of_getElem? (i := 14) rfl)) rfl (gd_cons (lf_X12_goThrough_1 _ (List.mem_of_getElem? (i := 11) rfl)) rfl (gd_cons (lf_X12_goThrough_1 _ (List.mem_of_getElem? (i := 15) rfl)) rfl (gd_nil _)))))) (goodIn_sub lf_X12_goThrough_4 ga_wsX120)))
set_option maxRecDepth 20000 in
theorem gX12_goThrough_X12_isWeek : GoodIn wsX12_goThrough (wsV RX12 152 RX12 yX12_isWeek wsX12_isWeek) := goodIn_app (gd_cons (lf_X12_goThrough_1 _ (List.mem_of_getElem? (i := 8) rfl)) rfl (gd_cons (lf_X12_goThrough_1 _ (List.mem_of_getElem? (i := 9) rfl)) rfl (gd_cons (lf_X12_goThrough_1 _ (List.mem_of_getElem? (i := 10) rfl)) rfl (gd_cons (lf_X12_goThrough_1 _ (List.mem_of_getElem? (i := 11) rfl)) rfl (gd_nil _))))) ggX12_goThrough_X12_isWeek
set_option maxRecDepth 20000 in
theorem ggX12_goThrough_X12_after : GoodIn wsX12_goThrough wsX12_after := (gd_cons (lf_X12_goThrough_1 _ (List.mem_of_getElem? (i := 19) rfl)) rfl (goodIn_app (gd_cons (lf_X12_goThrough_1 _ (List.mem_of_getElem? (i := 7) rfl)) rfl (gd_cons (lf_X12_goThrough_1 _ (List.mem_of_getElem? (i := 20) rfl)) rfl (gd_cons (lf_X12_goThrough_1 _ (List.mem_of_getElem? (i := 21) rfl)) rfl (gd_cons (lf_X12_goThrough_1 _ (List.mem_of_getElem? (i := 11) rfl)) rfl (gd_cons (lf_X12_goThrough_1 _ (List.mem_of_getElem? (i := 22) rfl)) rfl (gd_cons (lf_X12_goThrough_1 _ (List.mem_of_getElem? (i := 23) rfl)) rfl (gd_cons (lf_X12_goThrough_2 _ (List.mem_of_getElem? (i := 0) rfl)) rfl (gd_cons (lf_X12_goThrough_2 _ (List.mem_of_getElem? (i := 1) rfl)) rfl (gd_nil _))))))))) (goodIn_sub lf_X12_goThrough_4 ga_wsX120)))
set_option maxRecDepth 20000 in
theorem gX12_goThrough_X12_after : GoodIn wsX12_goThrough (wsV RX12 174 RX12 yX12_after wsX12_after) := goodIn_app (gd_cons (lf_X12_goThrough_1 _ (List.mem_of_getElem? (i := 16) rfl)) rfl (gd_cons (lf_X12_goThrough_1 _ (List.mem_of_getElem? (i := 17) rfl)) rfl (gd_cons (lf_X12_goThrough_1 _ (List.mem_of_getElem? (i := 18) rfl)) rfl (gd_cons (lf_X12_goThrough_1 _ (List.mem_of_getElem? (i := 11) rfl)) rfl (gd_nil _))))) ggX12_goThrough_X12_after
set_option maxRecDepth 20000 in
theorem ggX12_goThrough_X12_left : GoodIn wsX12_goThrough wsX12_left := (gd_cons (lf_X12_goThrough_2 _ (List.mem_of_getElem? (i := 4) rfl)) rfl (gd_nil _))
set_option maxRecDepth 20000 in
theorem gX12_goThrough_X12_left : GoodIn wsX12_goThrough (va_wsS RX12 253 yX12_left wsX12_left) := goodIn_app (gd_cons (lf_X12_goThrough_2 _ (List.mem_of_getElem? (i := 2) rfl)) rfl (gd_cons (lf_X12_goThrough_2 _ (List.mem_of_getElem? (i := 3) rfl)) rfl (gd_cons (lf_X12_goThrough_1 _ (List.mem_of_getElem? (i := 11) rfl)) rfl (gd_nil _)))) ggX12_goThrough_X12_left
set_option maxRecDepth 20000 in
theorem ggX12_goThrough_X12_stays : GoodIn wsX12_goThrough wsX12_stays := (gd_cons (lf_X12_goThrough_2 _ (List.mem_of_getElem? (i := 8) rfl)) rfl (goodIn_app (gd_cons (lf_X12_goThrough_1 _ (List.mem_of_getElem? (i := 13) rfl)) rfl (gd_cons (lf_X12_goThrough_1 _ (List.mem_of_getElem? (i := 14) rfl)) rfl (gd_cons (lf_X12_goThrough_1 _ (List.mem_of_getElem? (i := 11) rfl)) rfl (gd_cons (lf_X12_goThrough_1 _ (List.mem_of_getElem? (i := 15) rfl)) rfl (gd_cons (lf_X12_goThrough_2 _ (List.mem_of_getElem? (i := 9) rfl)) rfl (gd_cons (lf_X12_goThrough_2 _ (List.mem_of_getElem? (i := 10) rfl)) rfl (gd_cons (lf_X12_goThrough_2 _ (List.mem_of_getElem? (i := 11) rfl)) rfl (gd_cons (lf_X12_goThrough_2 _ (List.mem_of_getElem? (i := 12) rfl)) rfl (gd_cons (lf_X12_goThrough_2 _ (List.mem_of_getElem? (i := 13) rfl)) rfl (gd_cons (lf_X12_goThrough_2 _ (List.mem_of_getElem? (i := 14) rfl)) rfl (gd_cons (lf_X12_goThrough_2 _ (List.mem_of_getElem? (i := 15) rfl)) rfl (gd_cons (lf_X12_goThrough_1 _ (List.mem_of_getElem? (i := 7) rfl)) rfl (gd_cons (lf_X12_goThrough_2 _ (List.mem_of_getElem? (i := 16) rfl)) rfl (gd_cons (lf_X12_goThrough_2 _ (List.mem_of_getElem? (i := 17) rfl)) rfl (gd_cons (lf_X12_goThrough_2 _ (List.mem_of_getElem? (i := 18) rfl)) rfl (gd_nil _)))))))))))))))) (goodIn_sub lf_X12_goThrough_4 ga_wsX120)))
set_option maxRecDepth 20000 in
theorem gX12_goThrough_X12_stays : GoodIn wsX12_goThrough (wsV RX12 190 RX12 yX12_stays wsX12_stays) := goodIn_app (gd_cons (lf_X12_goThrough_2 _ (List.mem_of_getElem? (i := 5) rfl)) rfl (gd_cons (lf_X12_goThrough_2 _ (List.mem_of_getElem? (i := 6) rfl)) rfl (gd_cons (lf_X12_goThrough_2 _ (List.mem_of_getElem? (i := 7) rfl)) rfl (gd_cons (lf_X12_goThrough_1 _ (List.mem_of_getElem? (i := 11) rfl)) rfl (gd_nil _))))) ggX12_goThrough_X12_stays
set_option maxRecDepth 20000 in
theorem ggX12_goThrough_X12_all : GoodIn wsX12_goThrough wsX12_all := (gd_cons (lf_X12_goThrough_1 _ (List.mem_of_getElem? (i := 22) rfl)) rfl (gd_nil _))
set_option maxRecDepth 20000 in
theorem gX12_goThrough_X12_all : GoodIn wsX12_goThrough (va_wsS RX12 160 yX12_all wsX12_all) := goodIn_app (gd_cons (lf_X12_goThrough_1 _ (List.mem_of_getElem? (i := 20) rfl)) rfl (gd_cons (lf_X12_goThrough_1 _ (List.mem_of_getElem? (i := 21) rfl)) rfl (gd_cons (lf_X12_goThrough_1 _ (List.mem_of_getElem? (i := 11) rfl)) rfl (gd_nil _)))) ggX12_goThrough_X12_all
set_option maxRecDepth 20000 in
theorem ggX12_goThrough_X12_power : GoodIn wsX12_goThrough wsX12_power := (gd_cons (lf_X12_goThrough_2 _ (List.mem_of_getElem? (i := 18) rfl)) rfl (gd_nil _))
set_option maxRecDepth 20000 in
theorem gX12_goThrough_X12_power : GoodIn wsX12_goThrough (va_wsS RX12 187 yX12_power wsX12_power) := goodIn_app (gd_cons (lf_X12_goThrough_2 _ (List.mem_of_getElem? (i := 16) rfl)) rfl (gd_cons (lf_X12_goThrough_2 _ (List.mem_of_getElem? (i := 17) rfl)) rfl (gd_cons (lf_X12_goThrough_1 _ (List.mem_of_getElem? (i := 11) rfl)) rfl (gd_nil _)))) ggX12_goThrough_X12_power
set_option maxRecDepth 20000 in
theorem ggX12_goThrough_X12_costOf : GoodIn wsX12_goThrough wsX12_costOf := (gd_cons (lf_X12_goThrough_2 _ (List.mem_of_getElem? (i := 22) rfl)) rfl (goodIn_app (gd_cons (lf_X12_goThrough_1 _ (List.mem_of_getElem? (i := 7) rfl)) rfl (gd_cons (lf_X12_goThrough_2 _ (List.mem_of_getElem? (i := 23) rfl)) rfl (gd_cons (lf_X12_goThrough_3 _ (List.mem_of_getElem? (i := 0) rfl)) rfl (gd_cons (lf_X12_goThrough_3 _ (List.mem_of_getElem? (i := 1) rfl)) rfl (gd_cons (lf_X12_goThrough_1 _ (List.mem_of_getElem? (i := 11) rfl)) rfl (gd_cons (lf_X12_goThrough_3 _ (List.mem_of_getElem? (i := 2) rfl)) rfl (gd_cons (lf_X12_goThrough_1 _ (List.mem_of_getElem? (i := 20) rfl)) rfl (gd_cons (lf_X12_goThrough_1 _ (List.mem_of_getElem? (i := 21) rfl)) rfl (gd_cons (lf_X12_goThrough_1 _ (List.mem_of_getElem? (i := 22) rfl)) rfl (gd_nil _)))))))))) (goodIn_sub lf_X12_goThrough_4 ga_wsX120)))
set_option maxRecDepth 20000 in
theorem gX12_goThrough_X12_costOf : GoodIn wsX12_goThrough (wsV RX12 181 RX12 yX12_costOf wsX12_costOf) := goodIn_app (gd_cons (lf_X12_goThrough_2 _ (List.mem_of_getElem? (i := 19) rfl)) rfl (gd_cons (lf_X12_goThrough_2 _ (List.mem_of_getElem? (i := 20) rfl)) rfl (gd_cons (lf_X12_goThrough_2 _ (List.mem_of_getElem? (i := 21) rfl)) rfl (gd_cons (lf_X12_goThrough_1 _ (List.mem_of_getElem? (i := 11) rfl)) rfl (gd_nil _))))) ggX12_goThrough_X12_costOf
set_option maxRecDepth 20000 in
theorem ggX12_goThrough_X12_over : GoodIn wsX12_goThrough wsX12_over := (gd_cons (lf_X12_goThrough_3 _ (List.mem_of_getElem? (i := 2) rfl)) rfl (goodIn_app (gd_cons (lf_X12_goThrough_1 _ (List.mem_of_getElem? (i := 7) rfl)) rfl (gd_nil _)) (goodIn_sub lf_X12_goThrough_4 ga_wsX120)))
set_option maxRecDepth 20000 in
theorem gX12_goThrough_X12_over : GoodIn wsX12_goThrough (wsV RX12 167 RX12 yX12_over wsX12_over) := goodIn_app (gd_cons (lf_X12_goThrough_2 _ (List.mem_of_getElem? (i := 23) rfl)) rfl (gd_cons (lf_X12_goThrough_3 _ (List.mem_of_getElem? (i := 0) rfl)) rfl (gd_cons (lf_X12_goThrough_3 _ (List.mem_of_getElem? (i := 1) rfl)) rfl (gd_cons (lf_X12_goThrough_1 _ (List.mem_of_getElem? (i := 11) rfl)) rfl (gd_nil _))))) ggX12_goThrough_X12_over
set_option maxRecDepth 20000 in
theorem ggX12_goThrough_X12_bonus : GoodIn wsX12_goThrough wsX12_bonus := (gd_cons (lf_X12_goThrough_3 _ (List.mem_of_getElem? (i := 6) rfl)) rfl (goodIn_app (gd_cons (lf_X12_goThrough_1 _ (List.mem_of_getElem? (i := 7) rfl)) rfl (gd_cons (lf_X12_goThrough_1 _ (List.mem_of_getElem? (i := 20) rfl)) rfl (gd_cons (lf_X12_goThrough_1 _ (List.mem_of_getElem? (i := 21) rfl)) rfl (gd_cons (lf_X12_goThrough_1 _ (List.mem_of_getElem? (i := 11) rfl)) rfl (gd_cons (lf_X12_goThrough_1 _ (List.mem_of_getElem? (i := 22) rfl)) rfl (gd_nil _)))))) (goodIn_sub lf_X12_goThrough_4 ga_wsX120)))
set_option maxRecDepth 20000 in
theorem gX12_goThrough_X12_bonus : GoodIn wsX12_goThrough (wsV RX12 211 RX12 yX12_bonus wsX12_bonus) := goodIn_app (gd_cons (lf_X12_goThrough_3 _ (List.mem_of_getElem? (i := 3) rfl)) rfl (gd_cons (lf_X12_goThrough_3 _ (List.mem_of_getElem? (i := 4) rfl)) rfl (gd_cons (lf_X12_goThrough_3 _ (List.mem_of_getElem? (i := 5) rfl)) rfl (gd_cons (lf_X12_goThrough_1 _ (List.mem_of_getElem? (i := 11) rfl)) rfl (gd_nil _))))) ggX12_goThrough_X12_bonus
theorem dX12_goThrough_0 : decode cX12_goThrough 0 = .ok (.iconst 0, 1) := dq_3 (dst 0 rd_prog_14_method_73_code_0 rfl)
theorem dX12_goThrough_1 : decode cX12_goThrough 1 = .ok (.istore_n 1, 1) := dq_60 (dst 1 rd_prog_14_method_73_code_0 rfl)
theorem dX12_goThrough_2 : decode cX12_goThrough 2 = .ok (.iconst 0, 1) := dq_3 (dst 2 rd_prog_14_method_73_code_0 rfl)
theorem dX12_goThrough_3 : decode cX12_goThrough 3 = .ok (.istore_n 2, 1) := dq_61 (dst 3 rd_prog_14_method_73_code_0 rfl)
theorem dX12_goThrough_4 : decode cX12_goThrough 4 = .ok (.iconst 0, 1) := dq_3 (dst 4 rd_prog_14_method_73_code_0 rfl)
theorem dX12_goThrough_5 : decode cX12_goThrough 5 = .ok (.istore_n 3, 1) := dq_62 (dst 5 rd_prog_14_method_73_code_0 rfl)
theorem dX12_goThrough_6 : decode cX12_goThrough 6 = .ok (.aload_n 0, 1) := dq_42 (dst 6 rd_prog_14_method_73_code_0 rfl)
theorem dX12_goThrough_7 : decode cX12_goThrough 7 = .ok (.lconst 0, 1) := dq_9 (dst 7 rd_prog_14_method_73_code_0 rfl)
theorem dX12_goThrough_8 : decode cX12_goThrough 8 = .ok (.putfield 261, 3) := dq_181 (dst 8 rd_prog_14_method_73_code_0 rfl) rfl
theorem dX12_goThrough_11 : decode cX12_goThrough 11 = .ok (.aload_n 0, 1) := dq_42 (dst 11 rd_prog_14_method_73_code_0 rfl)
theorem dX12_goThrough_12 : decode cX12_goThrough 12 = .ok (.lconst 1, 1) := dq_10 (dst 12 rd_prog_14_method_73_code_0 rfl)
theorem dX12_goThrough_13 : decode cX12_goThrough 13 = .ok (.putfield 265, 3) := dq_181 (dst 13 rd_prog_14_method_73_code_0 rfl) rfl
theorem dX12_goThrough_16 : decode cX12_goThrough 16 = .ok (.aload_n 0, 1) := dq_42 (dst 16 rd_prog_14_method_73_code_0 rfl)
theorem dX12_goThrough_17 : decode cX12_goThrough 17 = .ok (.lconst 1, 1) := dq_10 (dst 17 rd_prog_14_method_73_code_0 rfl)
theorem dX12_goThrough_18 : decode cX12_goThrough 18 = .ok (.putfield 268, 3) := dq_181 (dst 18 rd_prog_14_method_73_code_0 rfl) rfl
theorem dX12_goThrough_21 : decode cX12_goThrough 21 = .ok (.aload_n 0, 1) := dq_42 (dst 21 rd_prog_14_method_73_code_0 rfl)
theorem dX12_goThrough_22 : decode cX12_goThrough 22 = .ok (.bipush (-9), 2) := dq_16 (dst 22 rd_prog_14_method_73_code_0 rfl) (by decide +kernel)
theorem dX12_goThrough_24 : decode cX12_goThrough 24 = .ok (.putfield 271, 3) := dq_181 (dst 24 rd_prog_14_method_73_code_0 rfl) rfl
theorem dX12_goThrough_27 : decode cX12_goThrough 27 = .ok (.iconst 0, 1) := dq_3 (dst 27 rd_prog_14_method_73_code_0 rfl)
theorem dX12_goThrough_28 : decode cX12_goThrough 28 = .ok (.istore 4, 2) := dq_54 (dst 28 rd_prog_14_method_73_code_0 rfl) rfl
theorem dX12_goThrough_30 : decode cX12_goThrough 30 = .ok (.iload 4, 2) := dq_21 (dst 30 rd_prog_14_method_73_code_0 rfl) rfl
theorem dX12_goThrough_32 : decode cX12_goThrough 32 = .ok (.aload_n 0, 1) := dq_42 (dst 0 rd_prog_14_method_73_code_1 rfl)
theorem dX12_goThrough_33 : decode cX12_goThrough 33 = .ok (.getfield 258, 3) := dq_180 (dst 1 rd_prog_14_method_73_code_1 rfl) rfl
theorem dX12_goThrough_36 : decode cX12_goThrough 36 = .ok (.if_icmp .ge 328, 3) := dq_162 (dst 4 rd_prog_14_method_73_code_1 rfl) (by decide +kernel)
theorem dX12_goThrough_39 : decode cX12_goThrough 39 = .ok (.aload_n 0, 1) := dq_42 (dst 7 rd_prog_14_method_73_code_1 rfl)
theorem dX12_goThrough_40 : decode cX12_goThrough 40 = .ok (.iload 4, 2) := dq_21 (dst 8 rd_prog_14_method_73_code_1 rfl) rfl
theorem dX12_goThrough_42 : decode cX12_goThrough 42 = .ok (.invokevirtual 152, 3) := dq_182 (dst 10 rd_prog_14_method_73_code_1 rfl) rfl
theorem dX12_goThrough_45 : decode cX12_goThrough 45 = .ok (.ifCond .eq 20, 3) := dq_153 (dst 13 rd_prog_14_method_73_code_1 rfl) (by decide +kernel)
theorem dX12_goThrough_48 : decode cX12_goThrough 48 = .ok (.aload_n 0, 1) := dq_42 (dst 16 rd_prog_14_method_73_code_1 rfl)
theorem dX12_goThrough_49 : decode cX12_goThrough 49 = .ok (.iload 4, 2) := dq_21 (dst 17 rd_prog_14_method_73_code_1 rfl) rfl
theorem dX12_goThrough_51 : decode cX12_goThrough 51 = .ok (.iload_n 1, 1) := dq_27 (dst 19 rd_prog_14_method_73_code_1 rfl)
theorem dX12_goThrough_52 : decode cX12_goThrough 52 = .ok (.aload_n 0, 1) := dq_42 (dst 20 rd_prog_14_method_73_code_1 rfl)
theorem dX12_goThrough_53 : decode cX12_goThrough 53 = .ok (.getfield 57, 3) := dq_180 (dst 21 rd_prog_14_method_73_code_1 rfl) rfl
theorem dX12_goThrough_56 : decode cX12_goThrough 56 = .ok (.iload 4, 2) := dq_21 (dst 24 rd_prog_14_method_73_code_1 rfl) rfl
theorem dX12_goThrough_58 : decode cX12_goThrough 58 = .ok (.iaload, 1) := dq_46 (dst 26 rd_prog_14_method_73_code_1 rfl)
theorem dX12_goThrough_59 : decode cX12_goThrough 59 = .ok (.invokevirtual 174, 3) := dq_182 (dst 27 rd_prog_14_method_73_code_1 rfl) rfl
theorem dX12_goThrough_62 : decode cX12_goThrough 62 = .ok (.goto 5, 3) := dq_167 (dst 30 rd_prog_14_method_73_code_1 rfl) (by decide +kernel)
theorem dX12_goThrough_65 : decode cX12_goThrough 65 = .ok (.bipush (-9), 2) := dq_16 (dst 1 rd_prog_14_method_73_code_2 rfl) (by decide +kernel)
theorem dX12_goThrough_67 : decode cX12_goThrough 67 = .ok (.istore 5, 2) := dq_54 (dst 3 rd_prog_14_method_73_code_2 rfl) rfl
theorem dX12_goThrough_69 : decode cX12_goThrough 69 = .ok (.iload 5, 2) := dq_21 (dst 5 rd_prog_14_method_73_code_2 rfl) rfl
theorem dX12_goThrough_71 : decode cX12_goThrough 71 = .ok (.bipush (-9), 2) := dq_16 (dst 7 rd_prog_14_method_73_code_2 rfl) (by decide +kernel)
theorem dX12_goThrough_73 : decode cX12_goThrough 73 = .ok (.if_icmp .ne 8, 3) := dq_160 (dst 9 rd_prog_14_method_73_code_2 rfl) (by decide +kernel)
theorem dX12_goThrough_76 : decode cX12_goThrough 76 = .ok (.bipush (-9), 2) := dq_16 (dst 12 rd_prog_14_method_73_code_2 rfl) (by decide +kernel)
theorem dX12_goThrough_78 : decode cX12_goThrough 78 = .ok (.goto 15, 3) := dq_167 (dst 14 rd_prog_14_method_73_code_2 rfl) (by decide +kernel)
theorem dX12_goThrough_81 : decode cX12_goThrough 81 = .ok (.iload 5, 2) := dq_21 (dst 17 rd_prog_14_method_73_code_2 rfl) rfl
theorem dX12_goThrough_83 : decode cX12_goThrough 83 = .ok (.aload_n 0, 1) := dq_42 (dst 19 rd_prog_14_method_73_code_2 rfl)
theorem dX12_goThrough_84 : decode cX12_goThrough 84 = .ok (.getfield 60, 3) := dq_180 (dst 20 rd_prog_14_method_73_code_2 rfl) rfl
theorem dX12_goThrough_87 : decode cX12_goThrough 87 = .ok (.iload 4, 2) := dq_21 (dst 23 rd_prog_14_method_73_code_2 rfl) rfl
theorem dX12_goThrough_89 : decode cX12_goThrough 89 = .ok (.iaload, 1) := dq_46 (dst 25 rd_prog_14_method_73_code_2 rfl)
theorem dX12_goThrough_90 : decode cX12_goThrough 90 = .ok (.invokestatic 253, 3) := dq_184 (dst 26 rd_prog_14_method_73_code_2 rfl) rfl
theorem dX12_goThrough_93 : decode cX12_goThrough 93 = .ok (.istore 6, 2) := dq_54 (dst 29 rd_prog_14_method_73_code_2 rfl) rfl
theorem dX12_goThrough_95 : decode cX12_goThrough 95 = .ok (.iload 6, 2) := dq_21 (dst 31 rd_prog_14_method_73_code_2 rfl) rfl
theorem dX12_goThrough_97 : decode cX12_goThrough 97 = .ok (.bipush (-9), 2) := dq_16 (dst 1 rd_prog_14_method_73_code_3 rfl) (by decide +kernel)
theorem dX12_goThrough_99 : decode cX12_goThrough 99 = .ok (.if_icmp .ne 6, 3) := dq_160 (dst 3 rd_prog_14_method_73_code_3 rfl) (by decide +kernel)
theorem dX12_goThrough_102 : decode cX12_goThrough 102 = .ok (.iload 4, 2) := dq_21 (dst 6 rd_prog_14_method_73_code_3 rfl) rfl
theorem dX12_goThrough_104 : decode cX12_goThrough 104 = .ok (.ireturn, 1) := dq_172 (dst 8 rd_prog_14_method_73_code_3 rfl)
theorem dX12_goThrough_105 : decode cX12_goThrough 105 = .ok (.aload_n 0, 1) := dq_42 (dst 9 rd_prog_14_method_73_code_3 rfl)
theorem dX12_goThrough_106 : decode cX12_goThrough 106 = .ok (.getfield 60, 3) := dq_180 (dst 10 rd_prog_14_method_73_code_3 rfl) rfl
theorem dX12_goThrough_109 : decode cX12_goThrough 109 = .ok (.iload 4, 2) := dq_21 (dst 13 rd_prog_14_method_73_code_3 rfl) rfl
theorem dX12_goThrough_111 : decode cX12_goThrough 111 = .ok (.iaload, 1) := dq_46 (dst 15 rd_prog_14_method_73_code_3 rfl)
theorem dX12_goThrough_112 : decode cX12_goThrough 112 = .ok (.bipush 100, 2) := dq_16 (dst 16 rd_prog_14_method_73_code_3 rfl) (by decide +kernel)
theorem dX12_goThrough_114 : decode cX12_goThrough 114 = .ok (.idiv, 1) := dq_108 (dst 18 rd_prog_14_method_73_code_3 rfl)
theorem dX12_goThrough_115 : decode cX12_goThrough 115 = .ok (.istore 7, 2) := dq_54 (dst 19 rd_prog_14_method_73_code_3 rfl) rfl
theorem dX12_goThrough_117 : decode cX12_goThrough 117 = .ok (.aload_n 0, 1) := dq_42 (dst 21 rd_prog_14_method_73_code_3 rfl)
theorem dX12_goThrough_118 : decode cX12_goThrough 118 = .ok (.getfield 60, 3) := dq_180 (dst 22 rd_prog_14_method_73_code_3 rfl) rfl
theorem dX12_goThrough_121 : decode cX12_goThrough 121 = .ok (.iload 4, 2) := dq_21 (dst 25 rd_prog_14_method_73_code_3 rfl) rfl
theorem dX12_goThrough_123 : decode cX12_goThrough 123 = .ok (.iaload, 1) := dq_46 (dst 27 rd_prog_14_method_73_code_3 rfl)
theorem dX12_goThrough_124 : decode cX12_goThrough 124 = .ok (.bipush 10, 2) := dq_16 (dst 28 rd_prog_14_method_73_code_3 rfl) (by decide +kernel)
theorem dX12_goThrough_126 : decode cX12_goThrough 126 = .ok (.idiv, 1) := dq_108 (dst 30 rd_prog_14_method_73_code_3 rfl)
theorem dX12_goThrough_127 : decode cX12_goThrough 127 = .ok (.bipush 10, 2) := dq_16 (dst 31 rd_prog_14_method_73_code_3 rfl) (by decide +kernel)
theorem dX12_goThrough_129 : decode cX12_goThrough 129 = .ok (.irem, 1) := dq_112 (dst 1 rd_prog_14_method_73_code_4 rfl)
theorem dX12_goThrough_130 : decode cX12_goThrough 130 = .ok (.istore 8, 2) := dq_54 (dst 2 rd_prog_14_method_73_code_4 rfl) rfl
theorem dX12_goThrough_132 : decode cX12_goThrough 132 = .ok (.aload_n 0, 1) := dq_42 (dst 4 rd_prog_14_method_73_code_4 rfl)
theorem dX12_goThrough_133 : decode cX12_goThrough 133 = .ok (.getfield 60, 3) := dq_180 (dst 5 rd_prog_14_method_73_code_4 rfl) rfl
theorem dX12_goThrough_136 : decode cX12_goThrough 136 = .ok (.iload 4, 2) := dq_21 (dst 8 rd_prog_14_method_73_code_4 rfl) rfl
theorem dX12_goThrough_138 : decode cX12_goThrough 138 = .ok (.iaload, 1) := dq_46 (dst 10 rd_prog_14_method_73_code_4 rfl)
theorem dX12_goThrough_139 : decode cX12_goThrough 139 = .ok (.bipush 10, 2) := dq_16 (dst 11 rd_prog_14_method_73_code_4 rfl) (by decide +kernel)
theorem dX12_goThrough_141 : decode cX12_goThrough 141 = .ok (.irem, 1) := dq_112 (dst 13 rd_prog_14_method_73_code_4 rfl)
theorem dX12_goThrough_142 : decode cX12_goThrough 142 = .ok (.istore 9, 2) := dq_54 (dst 14 rd_prog_14_method_73_code_4 rfl) rfl
theorem dX12_goThrough_144 : decode cX12_goThrough 144 = .ok (.iload 5, 2) := dq_21 (dst 16 rd_prog_14_method_73_code_4 rfl) rfl
theorem dX12_goThrough_146 : decode cX12_goThrough 146 = .ok (.bipush 100, 2) := dq_16 (dst 18 rd_prog_14_method_73_code_4 rfl) (by decide +kernel)
theorem dX12_goThrough_148 : decode cX12_goThrough 148 = .ok (.idiv, 1) := dq_108 (dst 20 rd_prog_14_method_73_code_4 rfl)
theorem dX12_goThrough_149 : decode cX12_goThrough 149 = .ok (.istore 10, 2) := dq_54 (dst 21 rd_prog_14_method_73_code_4 rfl) rfl
theorem dX12_goThrough_151 : decode cX12_goThrough 151 = .ok (.iload 5, 2) := dq_21 (dst 23 rd_prog_14_method_73_code_4 rfl) rfl
theorem dX12_goThrough_153 : decode cX12_goThrough 153 = .ok (.bipush 10, 2) := dq_16 (dst 25 rd_prog_14_method_73_code_4 rfl) (by decide +kernel)
theorem dX12_goThrough_155 : decode cX12_goThrough 155 = .ok (.idiv, 1) := dq_108 (dst 27 rd_prog_14_method_73_code_4 rfl)
theorem dX12_goThrough_156 : decode cX12_goThrough 156 = .ok (.bipush 10, 2) := dq_16 (dst 28 rd_prog_14_method_73_code_4 rfl) (by decide +kernel)
theorem dX12_goThrough_158 : decode cX12_goThrough 158 = .ok (.irem, 1) := dq_112 (dst 30 rd_prog_14_method_73_code_4 rfl)
theorem dX12_goThrough_159 : decode cX12_goThrough 159 = .ok (.istore 11, 2) := dq_54 (dst 31 rd_prog_14_method_73_code_4 rfl) rfl
theorem dX12_goThrough_161 : decode cX12_goThrough 161 = .ok (.iload 5, 2) := dq_21 (dst 1 rd_prog_14_method_73_code_5 rfl) rfl
theorem dX12_goThrough_163 : decode cX12_goThrough 163 = .ok (.bipush 10, 2) := dq_16 (dst 3 rd_prog_14_method_73_code_5 rfl) (by decide +kernel)
theorem dX12_goThrough_165 : decode cX12_goThrough 165 = .ok (.irem, 1) := dq_112 (dst 5 rd_prog_14_method_73_code_5 rfl)
theorem dX12_goThrough_166 : decode cX12_goThrough 166 = .ok (.istore 12, 2) := dq_54 (dst 6 rd_prog_14_method_73_code_5 rfl) rfl
theorem dX12_goThrough_168 : decode cX12_goThrough 168 = .ok (.aload_n 0, 1) := dq_42 (dst 8 rd_prog_14_method_73_code_5 rfl)
theorem dX12_goThrough_169 : decode cX12_goThrough 169 = .ok (.iconst 0, 1) := dq_3 (dst 9 rd_prog_14_method_73_code_5 rfl)
theorem dX12_goThrough_170 : decode cX12_goThrough 170 = .ok (.iload 10, 2) := dq_21 (dst 10 rd_prog_14_method_73_code_5 rfl) rfl
theorem dX12_goThrough_172 : decode cX12_goThrough 172 = .ok (.iload 10, 2) := dq_21 (dst 12 rd_prog_14_method_73_code_5 rfl) rfl
theorem dX12_goThrough_174 : decode cX12_goThrough 174 = .ok (.iload 7, 2) := dq_21 (dst 14 rd_prog_14_method_73_code_5 rfl) rfl
theorem dX12_goThrough_176 : decode cX12_goThrough 176 = .ok (.isub, 1) := dq_100 (dst 16 rd_prog_14_method_73_code_5 rfl)
theorem dX12_goThrough_177 : decode cX12_goThrough 177 = .ok (.invokevirtual 190, 3) := dq_182 (dst 17 rd_prog_14_method_73_code_5 rfl) rfl
theorem dX12_goThrough_180 : decode cX12_goThrough 180 = .ok (.aload_n 0, 1) := dq_42 (dst 20 rd_prog_14_method_73_code_5 rfl)
theorem dX12_goThrough_181 : decode cX12_goThrough 181 = .ok (.iconst 1, 1) := dq_4 (dst 21 rd_prog_14_method_73_code_5 rfl)
theorem dX12_goThrough_182 : decode cX12_goThrough 182 = .ok (.iload 11, 2) := dq_21 (dst 22 rd_prog_14_method_73_code_5 rfl) rfl
theorem dX12_goThrough_184 : decode cX12_goThrough 184 = .ok (.iload 11, 2) := dq_21 (dst 24 rd_prog_14_method_73_code_5 rfl) rfl
theorem dX12_goThrough_186 : decode cX12_goThrough 186 = .ok (.iload 8, 2) := dq_21 (dst 26 rd_prog_14_method_73_code_5 rfl) rfl
theorem dX12_goThrough_188 : decode cX12_goThrough 188 = .ok (.isub, 1) := dq_100 (dst 28 rd_prog_14_method_73_code_5 rfl)
theorem dX12_goThrough_189 : decode cX12_goThrough 189 = .ok (.invokevirtual 190, 3) := dq_182 (dst 29 rd_prog_14_method_73_code_5 rfl) rfl
theorem dX12_goThrough_192 : decode cX12_goThrough 192 = .ok (.imul, 1) := dq_104 (dst 0 rd_prog_14_method_73_code_6 rfl)
theorem dX12_goThrough_193 : decode cX12_goThrough 193 = .ok (.aload_n 0, 1) := dq_42 (dst 1 rd_prog_14_method_73_code_6 rfl)
theorem dX12_goThrough_194 : decode cX12_goThrough 194 = .ok (.iconst 2, 1) := dq_5 (dst 2 rd_prog_14_method_73_code_6 rfl)
theorem dX12_goThrough_195 : decode cX12_goThrough 195 = .ok (.iload 12, 2) := dq_21 (dst 3 rd_prog_14_method_73_code_6 rfl) rfl
theorem dX12_goThrough_197 : decode cX12_goThrough 197 = .ok (.iload 12, 2) := dq_21 (dst 5 rd_prog_14_method_73_code_6 rfl) rfl
theorem dX12_goThrough_199 : decode cX12_goThrough 199 = .ok (.iload 9, 2) := dq_21 (dst 7 rd_prog_14_method_73_code_6 rfl) rfl
theorem dX12_goThrough_201 : decode cX12_goThrough 201 = .ok (.isub, 1) := dq_100 (dst 9 rd_prog_14_method_73_code_6 rfl)
theorem dX12_goThrough_202 : decode cX12_goThrough 202 = .ok (.invokevirtual 190, 3) := dq_182 (dst 10 rd_prog_14_method_73_code_6 rfl) rfl
theorem dX12_goThrough_205 : decode cX12_goThrough 205 = .ok (.imul, 1) := dq_104 (dst 13 rd_prog_14_method_73_code_6 rfl)
theorem dX12_goThrough_206 : decode cX12_goThrough 206 = .ok (.istore 13, 2) := dq_54 (dst 14 rd_prog_14_method_73_code_6 rfl) rfl
theorem dX12_goThrough_208 : decode cX12_goThrough 208 = .ok (.iload 13, 2) := dq_21 (dst 16 rd_prog_14_method_73_code_6 rfl) rfl
theorem dX12_goThrough_210 : decode cX12_goThrough 210 = .ok (.ifCond .ne 6, 3) := dq_154 (dst 18 rd_prog_14_method_73_code_6 rfl) (by decide +kernel)
theorem dX12_goThrough_213 : decode cX12_goThrough 213 = .ok (.iload 4, 2) := dq_21 (dst 21 rd_prog_14_method_73_code_6 rfl) rfl
theorem dX12_goThrough_215 : decode cX12_goThrough 215 = .ok (.ireturn, 1) := dq_172 (dst 23 rd_prog_14_method_73_code_6 rfl)
theorem dX12_goThrough_216 : decode cX12_goThrough 216 = .ok (.aload_n 0, 1) := dq_42 (dst 24 rd_prog_14_method_73_code_6 rfl)
theorem dX12_goThrough_217 : decode cX12_goThrough 217 = .ok (.dup, 1) := dq_89 (dst 25 rd_prog_14_method_73_code_6 rfl)
theorem dX12_goThrough_218 : decode cX12_goThrough 218 = .ok (.getfield 265, 3) := dq_180 (dst 26 rd_prog_14_method_73_code_6 rfl) rfl
theorem dX12_goThrough_221 : decode cX12_goThrough 221 = .ok (.iload 13, 2) := dq_21 (dst 29 rd_prog_14_method_73_code_6 rfl) rfl
theorem dX12_goThrough_223 : decode cX12_goThrough 223 = .ok (.i2l, 1) := dq_133 (dst 31 rd_prog_14_method_73_code_6 rfl)
theorem dX12_goThrough_224 : decode cX12_goThrough 224 = .ok (.lmul, 1) := dq_105 (dst 0 rd_prog_14_method_73_code_7 rfl)
theorem dX12_goThrough_225 : decode cX12_goThrough 225 = .ok (.putfield 265, 3) := dq_181 (dst 1 rd_prog_14_method_73_code_7 rfl) rfl
theorem dX12_goThrough_228 : decode cX12_goThrough 228 = .ok (.aload_n 0, 1) := dq_42 (dst 4 rd_prog_14_method_73_code_7 rfl)
theorem dX12_goThrough_229 : decode cX12_goThrough 229 = .ok (.dup, 1) := dq_89 (dst 5 rd_prog_14_method_73_code_7 rfl)
theorem dX12_goThrough_230 : decode cX12_goThrough 230 = .ok (.getfield 268, 3) := dq_180 (dst 6 rd_prog_14_method_73_code_7 rfl) rfl
theorem dX12_goThrough_233 : decode cX12_goThrough 233 = .ok (.iconst 5, 1) := dq_8 (dst 9 rd_prog_14_method_73_code_7 rfl)
theorem dX12_goThrough_234 : decode cX12_goThrough 234 = .ok (.iload 5, 2) := dq_21 (dst 10 rd_prog_14_method_73_code_7 rfl) rfl
theorem dX12_goThrough_236 : decode cX12_goThrough 236 = .ok (.invokestatic 160, 3) := dq_184 (dst 12 rd_prog_14_method_73_code_7 rfl) rfl
theorem dX12_goThrough_239 : decode cX12_goThrough 239 = .ok (.invokestatic 187, 3) := dq_184 (dst 15 rd_prog_14_method_73_code_7 rfl) rfl
theorem dX12_goThrough_242 : decode cX12_goThrough 242 = .ok (.i2l, 1) := dq_133 (dst 18 rd_prog_14_method_73_code_7 rfl)
theorem dX12_goThrough_243 : decode cX12_goThrough 243 = .ok (.lmul, 1) := dq_105 (dst 19 rd_prog_14_method_73_code_7 rfl)
theorem dX12_goThrough_244 : decode cX12_goThrough 244 = .ok (.putfield 268, 3) := dq_181 (dst 20 rd_prog_14_method_73_code_7 rfl) rfl
theorem dX12_goThrough_247 : decode cX12_goThrough 247 = .ok (.aload_n 0, 1) := dq_42 (dst 23 rd_prog_14_method_73_code_7 rfl)
theorem dX12_goThrough_248 : decode cX12_goThrough 248 = .ok (.dup, 1) := dq_89 (dst 24 rd_prog_14_method_73_code_7 rfl)
theorem dX12_goThrough_249 : decode cX12_goThrough 249 = .ok (.getfield 261, 3) := dq_180 (dst 25 rd_prog_14_method_73_code_7 rfl) rfl
theorem dX12_goThrough_252 : decode cX12_goThrough 252 = .ok (.aload_n 0, 1) := dq_42 (dst 28 rd_prog_14_method_73_code_7 rfl)
theorem dX12_goThrough_253 : decode cX12_goThrough 253 = .ok (.iload 4, 2) := dq_21 (dst 29 rd_prog_14_method_73_code_7 rfl) rfl
theorem dX12_goThrough_255 : decode cX12_goThrough 255 = .ok (.iload 5, 2) := dq_21 (dst 31 rd_prog_14_method_73_code_7 rfl) rfl
theorem dX12_goThrough_257 : decode cX12_goThrough 257 = .ok (.iload_n 2, 1) := dq_28 (dst 1 rd_prog_14_method_73_code_8 rfl)
theorem dX12_goThrough_258 : decode cX12_goThrough 258 = .ok (.aload_n 0, 1) := dq_42 (dst 2 rd_prog_14_method_73_code_8 rfl)
theorem dX12_goThrough_259 : decode cX12_goThrough 259 = .ok (.getfield 57, 3) := dq_180 (dst 3 rd_prog_14_method_73_code_8 rfl) rfl
theorem dX12_goThrough_262 : decode cX12_goThrough 262 = .ok (.iload 4, 2) := dq_21 (dst 6 rd_prog_14_method_73_code_8 rfl) rfl
theorem dX12_goThrough_264 : decode cX12_goThrough 264 = .ok (.iaload, 1) := dq_46 (dst 8 rd_prog_14_method_73_code_8 rfl)
theorem dX12_goThrough_265 : decode cX12_goThrough 265 = .ok (.invokevirtual 181, 3) := dq_182 (dst 9 rd_prog_14_method_73_code_8 rfl) rfl
theorem dX12_goThrough_268 : decode cX12_goThrough 268 = .ok (.i2l, 1) := dq_133 (dst 12 rd_prog_14_method_73_code_8 rfl)
theorem dX12_goThrough_269 : decode cX12_goThrough 269 = .ok (.ladd, 1) := dq_97 (dst 13 rd_prog_14_method_73_code_8 rfl)
theorem dX12_goThrough_270 : decode cX12_goThrough 270 = .ok (.putfield 261, 3) := dq_181 (dst 14 rd_prog_14_method_73_code_8 rfl) rfl
theorem dX12_goThrough_273 : decode cX12_goThrough 273 = .ok (.aload_n 0, 1) := dq_42 (dst 17 rd_prog_14_method_73_code_8 rfl)
theorem dX12_goThrough_274 : decode cX12_goThrough 274 = .ok (.iload 4, 2) := dq_21 (dst 18 rd_prog_14_method_73_code_8 rfl) rfl
theorem dX12_goThrough_276 : decode cX12_goThrough 276 = .ok (.iload 5, 2) := dq_21 (dst 20 rd_prog_14_method_73_code_8 rfl) rfl
theorem dX12_goThrough_278 : decode cX12_goThrough 278 = .ok (.iload_n 2, 1) := dq_28 (dst 22 rd_prog_14_method_73_code_8 rfl)
theorem dX12_goThrough_279 : decode cX12_goThrough 279 = .ok (.aload_n 0, 1) := dq_42 (dst 23 rd_prog_14_method_73_code_8 rfl)
theorem dX12_goThrough_280 : decode cX12_goThrough 280 = .ok (.getfield 57, 3) := dq_180 (dst 24 rd_prog_14_method_73_code_8 rfl) rfl
theorem dX12_goThrough_283 : decode cX12_goThrough 283 = .ok (.iload 4, 2) := dq_21 (dst 27 rd_prog_14_method_73_code_8 rfl) rfl
theorem dX12_goThrough_285 : decode cX12_goThrough 285 = .ok (.iaload, 1) := dq_46 (dst 29 rd_prog_14_method_73_code_8 rfl)
theorem dX12_goThrough_286 : decode cX12_goThrough 286 = .ok (.invokevirtual 167, 3) := dq_182 (dst 30 rd_prog_14_method_73_code_8 rfl) rfl
theorem dX12_goThrough_289 : decode cX12_goThrough 289 = .ok (.istore 14, 2) := dq_54 (dst 1 rd_prog_14_method_73_code_9 rfl) rfl
theorem dX12_goThrough_291 : decode cX12_goThrough 291 = .ok (.iload 14, 2) := dq_21 (dst 3 rd_prog_14_method_73_code_9 rfl) rfl
theorem dX12_goThrough_293 : decode cX12_goThrough 293 = .ok (.ifCond .ge 16, 3) := dq_156 (dst 5 rd_prog_14_method_73_code_9 rfl) (by decide +kernel)
theorem dX12_goThrough_296 : decode cX12_goThrough 296 = .ok (.iload 14, 2) := dq_21 (dst 8 rd_prog_14_method_73_code_9 rfl) rfl
theorem dX12_goThrough_298 : decode cX12_goThrough 298 = .ok (.ineg, 1) := dq_116 (dst 10 rd_prog_14_method_73_code_9 rfl)
theorem dX12_goThrough_299 : decode cX12_goThrough 299 = .ok (.aload_n 0, 1) := dq_42 (dst 11 rd_prog_14_method_73_code_9 rfl)
theorem dX12_goThrough_300 : decode cX12_goThrough 300 = .ok (.getfield 13, 3) := dq_180 (dst 12 rd_prog_14_method_73_code_9 rfl) rfl
theorem dX12_goThrough_303 : decode cX12_goThrough 303 = .ok (.iconst 3, 1) := dq_6 (dst 15 rd_prog_14_method_73_code_9 rfl)
theorem dX12_goThrough_304 : decode cX12_goThrough 304 = .ok (.iaload, 1) := dq_46 (dst 16 rd_prog_14_method_73_code_9 rfl)
theorem dX12_goThrough_305 : decode cX12_goThrough 305 = .ok (.imul, 1) := dq_104 (dst 17 rd_prog_14_method_73_code_9 rfl)
theorem dX12_goThrough_306 : decode cX12_goThrough 306 = .ok (.goto 4, 3) := dq_167 (dst 18 rd_prog_14_method_73_code_9 rfl) (by decide +kernel)
theorem dX12_goThrough_309 : decode cX12_goThrough 309 = .ok (.iconst 0, 1) := dq_3 (dst 21 rd_prog_14_method_73_code_9 rfl)
theorem dX12_goThrough_310 : decode cX12_goThrough 310 = .ok (.istore 15, 2) := dq_54 (dst 22 rd_prog_14_method_73_code_9 rfl) rfl
theorem dX12_goThrough_312 : decode cX12_goThrough 312 = .ok (.aload_n 0, 1) := dq_42 (dst 24 rd_prog_14_method_73_code_9 rfl)
theorem dX12_goThrough_313 : decode cX12_goThrough 313 = .ok (.iload 15, 2) := dq_21 (dst 25 rd_prog_14_method_73_code_9 rfl) rfl
theorem dX12_goThrough_315 : decode cX12_goThrough 315 = .ok (.iload_n 3, 1) := dq_29 (dst 27 rd_prog_14_method_73_code_9 rfl)
theorem dX12_goThrough_316 : decode cX12_goThrough 316 = .ok (.if_icmp .le 8, 3) := dq_164 (dst 28 rd_prog_14_method_73_code_9 rfl) (by decide +kernel)
theorem dX12_goThrough_319 : decode cX12_goThrough 319 = .ok (.iload 4, 2) := dq_21 (dst 31 rd_prog_14_method_73_code_9 rfl) rfl
theorem dX12_goThrough_321 : decode cX12_goThrough 321 = .ok (.goto 7, 3) := dq_167 (dst 1 rd_prog_14_method_73_code_10 rfl) (by decide +kernel)
theorem dX12_goThrough_324 : decode cX12_goThrough 324 = .ok (.aload_n 0, 1) := dq_42 (dst 4 rd_prog_14_method_73_code_10 rfl)
theorem dX12_goThrough_325 : decode cX12_goThrough 325 = .ok (.getfield 271, 3) := dq_180 (dst 5 rd_prog_14_method_73_code_10 rfl) rfl
theorem dX12_goThrough_328 : decode cX12_goThrough 328 = .ok (.putfield 271, 3) := dq_181 (dst 8 rd_prog_14_method_73_code_10 rfl) rfl
theorem dX12_goThrough_331 : decode cX12_goThrough 331 = .ok (.iload 15, 2) := dq_21 (dst 11 rd_prog_14_method_73_code_10 rfl) rfl
theorem dX12_goThrough_333 : decode cX12_goThrough 333 = .ok (.iload_n 3, 1) := dq_29 (dst 13 rd_prog_14_method_73_code_10 rfl)
theorem dX12_goThrough_334 : decode cX12_goThrough 334 = .ok (.if_icmp .le 8, 3) := dq_164 (dst 14 rd_prog_14_method_73_code_10 rfl) (by decide +kernel)
theorem dX12_goThrough_337 : decode cX12_goThrough 337 = .ok (.iload 15, 2) := dq_21 (dst 17 rd_prog_14_method_73_code_10 rfl) rfl
theorem dX12_goThrough_339 : decode cX12_goThrough 339 = .ok (.goto 4, 3) := dq_167 (dst 19 rd_prog_14_method_73_code_10 rfl) (by decide +kernel)
theorem dX12_goThrough_342 : decode cX12_goThrough 342 = .ok (.iload_n 3, 1) := dq_29 (dst 22 rd_prog_14_method_73_code_10 rfl)
theorem dX12_goThrough_343 : decode cX12_goThrough 343 = .ok (.istore_n 3, 1) := dq_62 (dst 23 rd_prog_14_method_73_code_10 rfl)
theorem dX12_goThrough_344 : decode cX12_goThrough 344 = .ok (.aload_n 0, 1) := dq_42 (dst 24 rd_prog_14_method_73_code_10 rfl)
theorem dX12_goThrough_345 : decode cX12_goThrough 345 = .ok (.getfield 57, 3) := dq_180 (dst 25 rd_prog_14_method_73_code_10 rfl) rfl
theorem dX12_goThrough_348 : decode cX12_goThrough 348 = .ok (.iload 4, 2) := dq_21 (dst 28 rd_prog_14_method_73_code_10 rfl) rfl
theorem dX12_goThrough_350 : decode cX12_goThrough 350 = .ok (.iaload, 1) := dq_46 (dst 30 rd_prog_14_method_73_code_10 rfl)
theorem dX12_goThrough_351 : decode cX12_goThrough 351 = .ok (.bipush 10, 2) := dq_16 (dst 31 rd_prog_14_method_73_code_10 rfl) (by decide +kernel)
theorem dX12_goThrough_353 : decode cX12_goThrough 353 = .ok (.irem, 1) := dq_112 (dst 1 rd_prog_14_method_73_code_11 rfl)
theorem dX12_goThrough_354 : decode cX12_goThrough 354 = .ok (.istore_n 2, 1) := dq_61 (dst 2 rd_prog_14_method_73_code_11 rfl)
theorem dX12_goThrough_355 : decode cX12_goThrough 355 = .ok (.iload 6, 2) := dq_21 (dst 3 rd_prog_14_method_73_code_11 rfl) rfl
theorem dX12_goThrough_357 : decode cX12_goThrough 357 = .ok (.istore_n 1, 1) := dq_60 (dst 5 rd_prog_14_method_73_code_11 rfl)
theorem dX12_goThrough_358 : decode cX12_goThrough 358 = .ok (.iinc 4 1, 3) := dq_132 (dst 6 rd_prog_14_method_73_code_11 rfl) rfl (by decide +kernel)
theorem dX12_goThrough_361 : decode cX12_goThrough 361 = .ok (.goto (-331), 3) := dq_167 (dst 9 rd_prog_14_method_73_code_11 rfl) (by decide +kernel)
theorem dX12_goThrough_364 : decode cX12_goThrough 364 = .ok (.aload_n 0, 1) := dq_42 (dst 12 rd_prog_14_method_73_code_11 rfl)
theorem dX12_goThrough_365 : decode cX12_goThrough 365 = .ok (.dup, 1) := dq_89 (dst 13 rd_prog_14_method_73_code_11 rfl)
theorem dX12_goThrough_366 : decode cX12_goThrough 366 = .ok (.getfield 261, 3) := dq_180 (dst 14 rd_prog_14_method_73_code_11 rfl) rfl
theorem dX12_goThrough_369 : decode cX12_goThrough 369 = .ok (.aload_n 0, 1) := dq_42 (dst 17 rd_prog_14_method_73_code_11 rfl)
theorem dX12_goThrough_370 : decode cX12_goThrough 370 = .ok (.getfield 258, 3) := dq_180 (dst 18 rd_prog_14_method_73_code_11 rfl) rfl
theorem dX12_goThrough_373 : decode cX12_goThrough 373 = .ok (.aload_n 0, 1) := dq_42 (dst 21 rd_prog_14_method_73_code_11 rfl)
theorem dX12_goThrough_374 : decode cX12_goThrough 374 = .ok (.getfield 13, 3) := dq_180 (dst 22 rd_prog_14_method_73_code_11 rfl) rfl
theorem dX12_goThrough_377 : decode cX12_goThrough 377 = .ok (.iconst 0, 1) := dq_3 (dst 25 rd_prog_14_method_73_code_11 rfl)
theorem dX12_goThrough_378 : decode cX12_goThrough 378 = .ok (.iaload, 1) := dq_46 (dst 26 rd_prog_14_method_73_code_11 rfl)
theorem dX12_goThrough_379 : decode cX12_goThrough 379 = .ok (.if_icmp .ne 12, 3) := dq_160 (dst 27 rd_prog_14_method_73_code_11 rfl) (by decide +kernel)
theorem dX12_goThrough_382 : decode cX12_goThrough 382 = .ok (.aload_n 0, 1) := dq_42 (dst 30 rd_prog_14_method_73_code_11 rfl)
theorem dX12_goThrough_383 : decode cX12_goThrough 383 = .ok (.iload_n 1, 1) := dq_27 (dst 31 rd_prog_14_method_73_code_11 rfl)
theorem dX12_goThrough_384 : decode cX12_goThrough 384 = .ok (.invokevirtual 211, 3) := dq_182 (dst 0 rd_prog_14_method_73_code_12 rfl) rfl
theorem dX12_goThrough_387 : decode cX12_goThrough 387 = .ok (.i2l, 1) := dq_133 (dst 3 rd_prog_14_method_73_code_12 rfl)
theorem dX12_goThrough_388 : decode cX12_goThrough 388 = .ok (.goto 4, 3) := dq_167 (dst 4 rd_prog_14_method_73_code_12 rfl) (by decide +kernel)
theorem dX12_goThrough_391 : decode cX12_goThrough 391 = .ok (.lconst 0, 1) := dq_9 (dst 7 rd_prog_14_method_73_code_12 rfl)
theorem dX12_goThrough_392 : decode cX12_goThrough 392 = .ok (.ladd, 1) := dq_97 (dst 8 rd_prog_14_method_73_code_12 rfl)
theorem dX12_goThrough_393 : decode cX12_goThrough 393 = .ok (.putfield 261, 3) := dq_181 (dst 9 rd_prog_14_method_73_code_12 rfl) rfl
theorem dX12_goThrough_396 : decode cX12_goThrough 396 = .ok (.bipush (-9), 2) := dq_16 (dst 12 rd_prog_14_method_73_code_12 rfl) (by decide +kernel)
theorem dX12_goThrough_398 : decode cX12_goThrough 398 = .ok (.ireturn, 1) := dq_172 (dst 14 rd_prog_14_method_73_code_12 rfl)
theorem lf_X12_judge_1 : ∀ w ∈ wsX12_judge_r1, w ∈ wsX12_judge := fun _ h => (List.mem_cons_of_mem _ (List.mem_append_left _ (List.mem_append_left _ h)))
theorem lf_X12_judge_2 : ∀ w ∈ wsX12_judge_r2, w ∈ wsX12_judge := fun _ h => (List.mem_cons_of_mem _ (List.mem_append_left _ (List.mem_append_right _ (List.mem_append_left _ h))))
theorem lf_X12_judge_3 : ∀ w ∈ wsX12_judge_r3, w ∈ wsX12_judge := fun _ h => (List.mem_cons_of_mem _ (List.mem_append_left _ (List.mem_append_right _ (List.mem_append_right _ h))))
theorem lf_X12_judge_4 : ∀ w ∈ wsX120, w ∈ wsX12_judge := fun _ h => (List.mem_cons_of_mem _ (List.mem_append_right _ h))
set_option maxRecDepth 20000 in
theorem ggX12_judge_X12_goThrough : GoodIn wsX12_judge wsX12_goThrough := (gd_cons (lf_X12_judge_1 _ (List.mem_of_getElem? (i := 4) rfl)) rfl (goodIn_app (goodIn_app (gd_cons (lf_X12_judge_1 _ (List.mem_of_getElem? (i := 5) rfl)) rfl (gd_cons (lf_X12_judge_1 _ (List.mem_of_getElem? (i := 6) rfl)) rfl (gd_cons (lf_X12_judge_1 _ (List.mem_of_getElem? (i := 7) rfl)) rfl (gd_cons (lf_X12_judge_1 _ (List.mem_of_getElem? (i := 8) rfl)) rfl (gd_cons (lf_X12_judge_1 _ (List.mem_of_getElem? (i := 9) rfl)) rfl (gd_cons (lf_X12_judge_1 _ (List.mem_of_getElem? (i := 10) rfl)) rfl (gd_cons (lf_X12_judge_1 _ (List.mem_of_getElem? (i := 11) rfl)) rfl (gd_cons (lf_X12_judge_1 _ (List.mem_of_getElem? (i := 12) rfl)) rfl (gd_cons (lf_X12_judge_1 _ (List.mem_of_getElem? (i := 13) rfl)) rfl (gd_cons (lf_X12_judge_1 _ (List.mem_of_getElem? (i := 14) rfl)) rfl (gd_cons (lf_X12_judge_1 _ (List.mem_of_getElem? (i := 15) rfl)) rfl (gd_cons (lf_X12_judge_1 _ (List.mem_of_getElem? (i := 3) rfl)) rfl (gd_cons (lf_X12_judge_1 _ (List.mem_of_getElem? (i := 16) rfl)) rfl (gd_cons (lf_X12_judge_1 _ (List.mem_of_getElem? (i := 17) rfl)) rfl (gd_cons (lf_X12_judge_1 _ (List.mem_of_getElem? (i := 18) rfl)) rfl (gd_cons (lf_X12_judge_1 _ (List.mem_of_getElem? (i := 19) rfl)) rfl (gd_cons (lf_X12_judge_1 _ (List.mem_of_getElem? (i := 20) rfl)) rfl (gd_cons (lf_X12_judge_1 _ (List.mem_of_getElem? (i := 21) rfl)) rfl (gd_cons (lf_X12_judge_1 _ (List.mem_of_getElem? (i := 22) rfl)) rfl (gd_cons (lf_X12_judge_1 _ (List.mem_of_getElem? (i := 23) rfl)) rfl (gd_cons (lf_X12_judge_2 _ (List.mem_of_getElem? (i := 0) rfl)) rfl (gd_cons (lf_X12_judge_2 _ (List.mem_of_getElem? (i := 1) rfl)) rfl (gd_cons (lf_X12_judge_2 _ (List.mem_of_getElem? (i := 2) rfl)) rfl (gd_cons (lf_X12_judge_2 _ (List.mem_of_getElem? (i := 3) rfl)) rfl (gd_nil _))))))))))))))))))))))))) (goodIn_app (gd_cons (lf_X12_judge_2 _ (List.mem_of_getElem? (i := 4) rfl)) rfl (gd_cons (lf_X12_judge_2 _ (List.mem_of_getElem? (i := 5) rfl)) rfl (gd_cons (lf_X12_judge_2 _ (List.mem_of_getElem? (i := 6) rfl)) rfl (gd_cons (lf_X12_judge_2 _ (List.mem_of_getElem? (i := 7) rfl)) rfl (gd_cons (lf_X12_judge_2 _ (List.mem_of_getElem? (i := 8) rfl)) rfl (gd_cons (lf_X12_judge_2 _ (List.mem_of_getElem? (i := 9) rfl)) rfl (gd_cons (lf_X12_judge_2 _ (List.mem_of_getElem? (i := 10) rfl)) rfl (gd_cons (lf_X12_judge_2 _ (List.mem_of_getElem? (i := 11) rfl)) rfl (gd_cons (lf_X12_judge_2 _ (List.mem_of_getElem? (i := 12) rfl)) rfl (gd_cons (lf_X12_judge_2 _ (List.mem_of_getElem? (i := 13) rfl)) rfl (gd_cons (lf_X12_judge_2 _ (List.mem_of_getElem? (i := 14) rfl)) rfl (gd_cons (lf_X12_judge_2 _ (List.mem_of_getElem? (i := 15) rfl)) rfl (gd_cons (lf_X12_judge_2 _ (List.mem_of_getElem? (i := 16) rfl)) rfl (gd_cons (lf_X12_judge_2 _ (List.mem_of_getElem? (i := 17) rfl)) rfl (gd_cons (lf_X12_judge_2 _ (List.mem_of_getElem? (i := 18) rfl)) rfl (gd_cons (lf_X12_judge_2 _ (List.mem_of_getElem? (i := 19) rfl)) rfl (gd_cons (lf_X12_judge_2 _ (List.mem_of_getElem? (i := 20) rfl)) rfl (gd_cons (lf_X12_judge_2 _ (List.mem_of_getElem? (i := 21) rfl)) rfl (gd_cons (lf_X12_judge_2 _ (List.mem_of_getElem? (i := 22) rfl)) rfl (gd_cons (lf_X12_judge_2 _ (List.mem_of_getElem? (i := 23) rfl)) rfl (gd_cons (lf_X12_judge_3 _ (List.mem_of_getElem? (i := 0) rfl)) rfl (gd_cons (lf_X12_judge_3 _ (List.mem_of_getElem? (i := 1) rfl)) rfl (gd_cons (lf_X12_judge_3 _ (List.mem_of_getElem? (i := 2) rfl)) rfl (gd_cons (lf_X12_judge_3 _ (List.mem_of_getElem? (i := 3) rfl)) rfl (gd_nil _))))))))))))))))))))))))) (gd_cons (lf_X12_judge_3 _ (List.mem_of_getElem? (i := 4) rfl)) rfl (gd_cons (lf_X12_judge_3 _ (List.mem_of_getElem? (i := 5) rfl)) rfl (gd_cons (lf_X12_judge_3 _ (List.mem_of_getElem? (i := 6) rfl)) rfl (gd_cons (lf_X12_judge_3 _ (List.mem_of_getElem? (i := 7) rfl)) rfl (gd_cons (lf_X12_judge_3 _ (List.mem_of_getElem? (i := 8) rfl)) rfl (gd_cons (lf_X12_judge_3 _ (List.mem_of_getElem? (i := 9) rfl)) rfl (gd_cons (lf_X12_judge_3 _ (List.mem_of_getElem? (i := 10) rfl)) rfl (gd_nil _)))))))))) (goodIn_sub lf_X12_judge_4 ga_wsX120)))
set_option maxRecDepth 20000 in
theorem gX12_judge_X12_goThrough : GoodIn wsX12_judge (wsV RX12 274 RX12 yX12_goThrough wsX12_goThrough) := goodIn_app (gd_cons (lf_X12_judge_1 _ (List.mem_of_getElem? (i := 0) rfl)) rfl (gd_cons (lf_X12_judge_1 _ (List.mem_of_getElem? (i := 1) rfl)) rfl (gd_cons (lf_X12_judge_1 _ (List.mem_of_getElem? (i := 2) rfl)) rfl (gd_cons (lf_X12_judge_1 _ (List.mem_of_getElem? (i := 3) rfl)) rfl (gd_nil _))))) ggX12_judge_X12_goThrough
theorem dX12_judge_0 : decode cX12_judge 0 = .ok (.aload_n 0, 1) := dq_42 (dst 0 rd_prog_14_method_74_code_0 rfl)
theorem dX12_judge_1 : decode cX12_judge 1 = .ok (.invokevirtual 274, 3) := dq_182 (dst 1 rd_prog_14_method_74_code_0 rfl) rfl
theorem dX12_judge_4 : decode cX12_judge 4 = .ok (.ireturn, 1) := dq_172 (dst 4 rd_prog_14_method_74_code_0 rfl)
theorem lf_X12_paid_1 : ∀ w ∈ wsX12_paid_r1, w ∈ wsX12_paid := fun _ h => (List.mem_cons_of_mem _ (List.mem_append_left _ (List.mem_append_left _ h)))
theorem lf_X12_paid_2 : ∀ w ∈ wsX12_paid_r2, w ∈ wsX12_paid := fun _ h => (List.mem_cons_of_mem _ (List.mem_append_left _ (List.mem_append_right _ (List.mem_append_left _ h))))
theorem lf_X12_paid_3 : ∀ w ∈ wsX12_paid_r3, w ∈ wsX12_paid := fun _ h => (List.mem_cons_of_mem _ (List.mem_append_left _ (List.mem_append_right _ (List.mem_append_right _ h))))
theorem lf_X12_paid_4 : ∀ w ∈ wsX120, w ∈ wsX12_paid := fun _ h => (List.mem_cons_of_mem _ (List.mem_append_right _ h))
set_option maxRecDepth 20000 in
theorem ggX12_paid_X12_goThrough : GoodIn wsX12_paid wsX12_goThrough := (gd_cons (lf_X12_paid_1 _ (List.mem_of_getElem? (i := 5) rfl)) rfl (goodIn_app (goodIn_app (gd_cons (lf_X12_paid_1 _ (List.mem_of_getElem? (i := 0) rfl)) rfl (gd_cons (lf_X12_paid_1 _ (List.mem_of_getElem? (i := 6) rfl)) rfl (gd_cons (lf_X12_paid_1 _ (List.mem_of_getElem? (i := 7) rfl)) rfl (gd_cons (lf_X12_paid_1 _ (List.mem_of_getElem? (i := 8) rfl)) rfl (gd_cons (lf_X12_paid_1 _ (List.mem_of_getElem? (i := 9) rfl)) rfl (gd_cons (lf_X12_paid_1 _ (List.mem_of_getElem? (i := 10) rfl)) rfl (gd_cons (lf_X12_paid_1 _ (List.mem_of_getElem? (i := 11) rfl)) rfl (gd_cons (lf_X12_paid_1 _ (List.mem_of_getElem? (i := 12) rfl)) rfl (gd_cons (lf_X12_paid_1 _ (List.mem_of_getElem? (i := 13) rfl)) rfl (gd_cons (lf_X12_paid_1 _ (List.mem_of_getElem? (i := 14) rfl)) rfl (gd_cons (lf_X12_paid_1 _ (List.mem_of_getElem? (i := 15) rfl)) rfl (gd_cons (lf_X12_paid_1 _ (List.mem_of_getElem? (i := 4) rfl)) rfl (gd_cons (lf_X12_paid_1 _ (List.mem_of_getElem? (i := 16) rfl)) rfl (gd_cons (lf_X12_paid_1 _ (List.mem_of_getElem? (i := 17) rfl)) rfl (gd_cons (lf_X12_paid_1 _ (List.mem_of_getElem? (i := 18) rfl)) rfl (gd_cons (lf_X12_paid_1 _ (List.mem_of_getElem? (i := 19) rfl)) rfl (gd_cons (lf_X12_paid_1 _ (List.mem_of_getElem? (i := 20) rfl)) rfl (gd_cons (lf_X12_paid_1 _ (List.mem_of_getElem? (i := 21) rfl)) rfl (gd_cons (lf_X12_paid_1 _ (List.mem_of_getElem? (i := 22) rfl)) rfl (gd_cons (lf_X12_paid_1 _ (List.mem_of_getElem? (i := 23) rfl)) rfl (gd_cons (lf_X12_paid_2 _ (List.mem_of_getElem? (i := 0) rfl)) rfl (gd_cons (lf_X12_paid_2 _ (List.mem_of_getElem? (i := 1) rfl)) rfl (gd_cons (lf_X12_paid_2 _ (List.mem_of_getElem? (i := 2) rfl)) rfl (gd_cons (lf_X12_paid_2 _ (List.mem_of_getElem? (i := 3) rfl)) rfl (gd_nil _))))))))))))))))))))))))) (goodIn_app (gd_cons (lf_X12_paid_2 _ (List.mem_of_getElem? (i := 4) rfl)) rfl (gd_cons (lf_X12_paid_2 _ (List.mem_of_getElem? (i := 5) rfl)) rfl (gd_cons (lf_X12_paid_2 _ (List.mem_of_getElem? (i := 6) rfl)) rfl (gd_cons (lf_X12_paid_2 _ (List.mem_of_getElem? (i := 7) rfl)) rfl (gd_cons (lf_X12_paid_2 _ (List.mem_of_getElem? (i := 8) rfl)) rfl (gd_cons (lf_X12_paid_2 _ (List.mem_of_getElem? (i := 9) rfl)) rfl (gd_cons (lf_X12_paid_2 _ (List.mem_of_getElem? (i := 10) rfl)) rfl (gd_cons (lf_X12_paid_2 _ (List.mem_of_getElem? (i := 11) rfl)) rfl (gd_cons (lf_X12_paid_2 _ (List.mem_of_getElem? (i := 12) rfl)) rfl (gd_cons (lf_X12_paid_2 _ (List.mem_of_getElem? (i := 13) rfl)) rfl (gd_cons (lf_X12_paid_2 _ (List.mem_of_getElem? (i := 14) rfl)) rfl (gd_cons (lf_X12_paid_2 _ (List.mem_of_getElem? (i := 15) rfl)) rfl (gd_cons (lf_X12_paid_2 _ (List.mem_of_getElem? (i := 16) rfl)) rfl (gd_cons (lf_X12_paid_2 _ (List.mem_of_getElem? (i := 17) rfl)) rfl (gd_cons (lf_X12_paid_2 _ (List.mem_of_getElem? (i := 18) rfl)) rfl (gd_cons (lf_X12_paid_2 _ (List.mem_of_getElem? (i := 19) rfl)) rfl (gd_cons (lf_X12_paid_2 _ (List.mem_of_getElem? (i := 20) rfl)) rfl (gd_cons (lf_X12_paid_2 _ (List.mem_of_getElem? (i := 21) rfl)) rfl (gd_cons (lf_X12_paid_2 _ (List.mem_of_getElem? (i := 22) rfl)) rfl (gd_cons (lf_X12_paid_2 _ (List.mem_of_getElem? (i := 23) rfl)) rfl (gd_cons (lf_X12_paid_3 _ (List.mem_of_getElem? (i := 0) rfl)) rfl (gd_cons (lf_X12_paid_3 _ (List.mem_of_getElem? (i := 1) rfl)) rfl (gd_cons (lf_X12_paid_3 _ (List.mem_of_getElem? (i := 2) rfl)) rfl (gd_cons (lf_X12_paid_3 _ (List.mem_of_getElem? (i := 3) rfl)) rfl (gd_nil _))))))))))))))))))))))))) (gd_cons (lf_X12_paid_3 _ (List.mem_of_getElem? (i := 4) rfl)) rfl (gd_cons (lf_X12_paid_3 _ (List.mem_of_getElem? (i := 5) rfl)) rfl (gd_cons (lf_X12_paid_3 _ (List.mem_of_getElem? (i := 6) rfl)) rfl (gd_cons (lf_X12_paid_3 _ (List.mem_of_getElem? (i := 7) rfl)) rfl (gd_cons (lf_X12_paid_3 _ (List.mem_of_getElem? (i := 8) rfl)) rfl (gd_cons (lf_X12_paid_3 _ (List.mem_of_getElem? (i := 9) rfl)) rfl (gd_cons (lf_X12_paid_3 _ (List.mem_of_getElem? (i := 10) rfl)) rfl (gd_nil _)))))))))) (goodIn_sub lf_X12_paid_4 ga_wsX120)))
set_option maxRecDepth 20000 in
theorem gX12_paid_X12_goThrough : GoodIn wsX12_paid (wsV RX12 274 RX12 yX12_goThrough wsX12_goThrough) := goodIn_app (gd_cons (lf_X12_paid_1 _ (List.mem_of_getElem? (i := 1) rfl)) rfl (gd_cons (lf_X12_paid_1 _ (List.mem_of_getElem? (i := 2) rfl)) rfl (gd_cons (lf_X12_paid_1 _ (List.mem_of_getElem? (i := 3) rfl)) rfl (gd_cons (lf_X12_paid_1 _ (List.mem_of_getElem? (i := 4) rfl)) rfl (gd_nil _))))) ggX12_paid_X12_goThrough
theorem dX12_paid_0 : decode cX12_paid 0 = .ok (.aload_n 0, 1) := dq_42 (dst 0 rd_prog_14_method_75_code_0 rfl)
theorem dX12_paid_1 : decode cX12_paid 1 = .ok (.invokevirtual 274, 3) := dq_182 (dst 1 rd_prog_14_method_75_code_0 rfl) rfl
theorem dX12_paid_4 : decode cX12_paid 4 = .ok (.bipush (-9), 2) := dq_16 (dst 4 rd_prog_14_method_75_code_0 rfl) (by decide +kernel)
theorem dX12_paid_6 : decode cX12_paid 6 = .ok (.if_icmp .ne 11, 3) := dq_160 (dst 6 rd_prog_14_method_75_code_0 rfl) (by decide +kernel)
theorem dX12_paid_9 : decode cX12_paid 9 = .ok (.aload_n 0, 1) := dq_42 (dst 9 rd_prog_14_method_75_code_0 rfl)
theorem dX12_paid_10 : decode cX12_paid 10 = .ok (.getfield 261, 3) := dq_180 (dst 10 rd_prog_14_method_75_code_0 rfl) rfl
theorem dX12_paid_13 : decode cX12_paid 13 = .ok (.l2i, 1) := dq_136 (dst 13 rd_prog_14_method_75_code_0 rfl)
theorem dX12_paid_14 : decode cX12_paid 14 = .ok (.goto 5, 3) := dq_167 (dst 14 rd_prog_14_method_75_code_0 rfl) (by decide +kernel)
theorem dX12_paid_17 : decode cX12_paid 17 = .ok (.bipush (-3), 2) := dq_16 (dst 17 rd_prog_14_method_75_code_0 rfl) (by decide +kernel)
theorem dX12_paid_19 : decode cX12_paid 19 = .ok (.ireturn, 1) := dq_172 (dst 19 rd_prog_14_method_75_code_0 rfl)
theorem lf_X12_luck_1 : ∀ w ∈ wsX12_luck_r1, w ∈ wsX12_luck := fun _ h => (List.mem_cons_of_mem _ (List.mem_append_left _ (List.mem_append_left _ h)))
theorem lf_X12_luck_2 : ∀ w ∈ wsX12_luck_r2, w ∈ wsX12_luck := fun _ h => (List.mem_cons_of_mem _ (List.mem_append_left _ (List.mem_append_right _ (List.mem_append_left _ h))))
theorem lf_X12_luck_3 : ∀ w ∈ wsX12_luck_r3, w ∈ wsX12_luck := fun _ h => (List.mem_cons_of_mem _ (List.mem_append_left _ (List.mem_append_right _ (List.mem_append_right _ h))))
theorem lf_X12_luck_4 : ∀ w ∈ wsX120, w ∈ wsX12_luck := fun _ h => (List.mem_cons_of_mem _ (List.mem_append_right _ h))
set_option maxRecDepth 20000 in
theorem ggX12_luck_X12_goThrough : GoodIn wsX12_luck wsX12_goThrough := (gd_cons (lf_X12_luck_1 _ (List.mem_of_getElem? (i := 7) rfl)) rfl (goodIn_app (goodIn_app (gd_cons (lf_X12_luck_1 _ (List.mem_of_getElem? (i := 8) rfl)) rfl (gd_cons (lf_X12_luck_1 _ (List.mem_of_getElem? (i := 0) rfl)) rfl (gd_cons (lf_X12_luck_1 _ (List.mem_of_getElem? (i := 1) rfl)) rfl (gd_cons (lf_X12_luck_1 _ (List.mem_of_getElem? (i := 9) rfl)) rfl (gd_cons (lf_X12_luck_1 _ (List.mem_of_getElem? (i := 10) rfl)) rfl (gd_cons (lf_X12_luck_1 _ (List.mem_of_getElem? (i := 11) rfl)) rfl (gd_cons (lf_X12_luck_1 _ (List.mem_of_getElem? (i := 12) rfl)) rfl (gd_cons (lf_X12_luck_1 _ (List.mem_of_getElem? (i := 13) rfl)) rfl (gd_cons (lf_X12_luck_1 _ (List.mem_of_getElem? (i := 14) rfl)) rfl (gd_cons (lf_X12_luck_1 _ (List.mem_of_getElem? (i := 15) rfl)) rfl (gd_cons (lf_X12_luck_1 _ (List.mem_of_getElem? (i := 16) rfl)) rfl (gd_cons (lf_X12_luck_1 _ (List.mem_of_getElem? (i := 6) rfl)) rfl (gd_cons (lf_X12_luck_1 _ (List.mem_of_getElem? (i := 17) rfl)) rfl (gd_cons (lf_X12_luck_1 _ (List.mem_of_getElem? (i := 18) rfl)) rfl (gd_cons (lf_X12_luck_1 _ (List.mem_of_getElem? (i := 19) rfl)) rfl (gd_cons (lf_X12_luck_1 _ (List.mem_of_getElem? (i := 20) rfl)) rfl (gd_cons (lf_X12_luck_1 _ (List.mem_of_getElem? (i := 21) rfl)) rfl (gd_cons (lf_X12_luck_1 _ (List.mem_of_getElem? (i := 22) rfl)) rfl (gd_cons (lf_X12_luck_1 _ (List.mem_of_getElem? (i := 23) rfl)) rfl (gd_cons (lf_X12_luck_2 _ (List.mem_of_getElem? (i := 0) rfl)) rfl (gd_cons (lf_X12_luck_2 _ (List.mem_of_getElem? (i := 1) rfl)) rfl (gd_cons (lf_X12_luck_2 _ (List.mem_of_getElem? (i := 2) rfl)) rfl (gd_cons (lf_X12_luck_2 _ (List.mem_of_getElem? (i := 3) rfl)) rfl (gd_cons (lf_X12_luck_2 _ (List.mem_of_getElem? (i := 4) rfl)) rfl (gd_nil _))))))))))))))))))))))))) (goodIn_app (gd_cons (lf_X12_luck_2 _ (List.mem_of_getElem? (i := 5) rfl)) rfl (gd_cons (lf_X12_luck_2 _ (List.mem_of_getElem? (i := 6) rfl)) rfl (gd_cons (lf_X12_luck_2 _ (List.mem_of_getElem? (i := 7) rfl)) rfl (gd_cons (lf_X12_luck_2 _ (List.mem_of_getElem? (i := 8) rfl)) rfl (gd_cons (lf_X12_luck_2 _ (List.mem_of_getElem? (i := 9) rfl)) rfl (gd_cons (lf_X12_luck_2 _ (List.mem_of_getElem? (i := 10) rfl)) rfl (gd_cons (lf_X12_luck_2 _ (List.mem_of_getElem? (i := 11) rfl)) rfl (gd_cons (lf_X12_luck_2 _ (List.mem_of_getElem? (i := 12) rfl)) rfl (gd_cons (lf_X12_luck_2 _ (List.mem_of_getElem? (i := 13) rfl)) rfl (gd_cons (lf_X12_luck_2 _ (List.mem_of_getElem? (i := 14) rfl)) rfl (gd_cons (lf_X12_luck_2 _ (List.mem_of_getElem? (i := 15) rfl)) rfl (gd_cons (lf_X12_luck_2 _ (List.mem_of_getElem? (i := 16) rfl)) rfl (gd_cons (lf_X12_luck_2 _ (List.mem_of_getElem? (i := 17) rfl)) rfl (gd_cons (lf_X12_luck_2 _ (List.mem_of_getElem? (i := 18) rfl)) rfl (gd_cons (lf_X12_luck_2 _ (List.mem_of_getElem? (i := 19) rfl)) rfl (gd_cons (lf_X12_luck_2 _ (List.mem_of_getElem? (i := 20) rfl)) rfl (gd_cons (lf_X12_luck_2 _ (List.mem_of_getElem? (i := 21) rfl)) rfl (gd_cons (lf_X12_luck_2 _ (List.mem_of_getElem? (i := 22) rfl)) rfl (gd_cons (lf_X12_luck_2 _ (List.mem_of_getElem? (i := 23) rfl)) rfl (gd_cons (lf_X12_luck_3 _ (List.mem_of_getElem? (i := 0) rfl)) rfl (gd_cons (lf_X12_luck_3 _ (List.mem_of_getElem? (i := 1) rfl)) rfl (gd_cons (lf_X12_luck_3 _ (List.mem_of_getElem? (i := 2) rfl)) rfl (gd_cons (lf_X12_luck_3 _ (List.mem_of_getElem? (i := 3) rfl)) rfl (gd_cons (lf_X12_luck_3 _ (List.mem_of_getElem? (i := 4) rfl)) rfl (gd_nil _))))))))))))))))))))))))) (gd_cons (lf_X12_luck_3 _ (List.mem_of_getElem? (i := 5) rfl)) rfl (gd_cons (lf_X12_luck_3 _ (List.mem_of_getElem? (i := 6) rfl)) rfl (gd_cons (lf_X12_luck_3 _ (List.mem_of_getElem? (i := 7) rfl)) rfl (gd_cons (lf_X12_luck_3 _ (List.mem_of_getElem? (i := 8) rfl)) rfl (gd_cons (lf_X12_luck_3 _ (List.mem_of_getElem? (i := 9) rfl)) rfl (gd_cons (lf_X12_luck_3 _ (List.mem_of_getElem? (i := 10) rfl)) rfl (gd_cons (lf_X12_luck_3 _ (List.mem_of_getElem? (i := 11) rfl)) rfl (gd_nil _)))))))))) (goodIn_sub lf_X12_luck_4 ga_wsX120)))
set_option maxRecDepth 20000 in
theorem gX12_luck_X12_goThrough : GoodIn wsX12_luck (wsV RX12 274 RX12 yX12_goThrough wsX12_goThrough) := goodIn_app (gd_cons (lf_X12_luck_1 _ (List.mem_of_getElem? (i := 3) rfl)) rfl (gd_cons (lf_X12_luck_1 _ (List.mem_of_getElem? (i := 4) rfl)) rfl (gd_cons (lf_X12_luck_1 _ (List.mem_of_getElem? (i := 5) rfl)) rfl (gd_cons (lf_X12_luck_1 _ (List.mem_of_getElem? (i := 6) rfl)) rfl (gd_nil _))))) ggX12_luck_X12_goThrough
set_option maxRecDepth 20000 in
theorem ggX12_luck_X12_told : GoodIn wsX12_luck wsX12_told := (gd_cons (lf_X12_luck_3 _ (List.mem_of_getElem? (i := 14) rfl)) rfl (gd_cons (lf_X12_luck_3 _ (List.mem_of_getElem? (i := 15) rfl)) rfl (gd_cons (lf_X12_luck_3 _ (List.mem_of_getElem? (i := 16) rfl)) rfl (gd_cons (lf_X12_luck_1 _ (List.mem_of_getElem? (i := 6) rfl)) rfl (gd_cons (lf_X12_luck_3 _ (List.mem_of_getElem? (i := 17) rfl)) rfl (gd_nil _))))))
set_option maxRecDepth 20000 in
theorem gX12_luck_X12_told : GoodIn wsX12_luck (va_wsS RX12 202 yX12_told wsX12_told) := goodIn_app (gd_cons (lf_X12_luck_3 _ (List.mem_of_getElem? (i := 12) rfl)) rfl (gd_cons (lf_X12_luck_3 _ (List.mem_of_getElem? (i := 13) rfl)) rfl (gd_cons (lf_X12_luck_1 _ (List.mem_of_getElem? (i := 6) rfl)) rfl (gd_nil _)))) ggX12_luck_X12_told
theorem dX12_luck_0 : decode cX12_luck 0 = .ok (.aload_n 0, 1) := dq_42 (dst 0 rd_prog_14_method_76_code_0 rfl)
theorem dX12_luck_1 : decode cX12_luck 1 = .ok (.invokevirtual 274, 3) := dq_182 (dst 1 rd_prog_14_method_76_code_0 rfl) rfl
theorem dX12_luck_4 : decode cX12_luck 4 = .ok (.bipush (-9), 2) := dq_16 (dst 4 rd_prog_14_method_76_code_0 rfl) (by decide +kernel)
theorem dX12_luck_6 : decode cX12_luck 6 = .ok (.if_icmp .ne 18, 3) := dq_160 (dst 6 rd_prog_14_method_76_code_0 rfl) (by decide +kernel)
theorem dX12_luck_9 : decode cX12_luck 9 = .ok (.aload_n 0, 1) := dq_42 (dst 9 rd_prog_14_method_76_code_0 rfl)
theorem dX12_luck_10 : decode cX12_luck 10 = .ok (.getfield 265, 3) := dq_180 (dst 10 rd_prog_14_method_76_code_0 rfl) rfl
theorem dX12_luck_13 : decode cX12_luck 13 = .ok (.aload_n 0, 1) := dq_42 (dst 13 rd_prog_14_method_76_code_0 rfl)
theorem dX12_luck_14 : decode cX12_luck 14 = .ok (.getfield 268, 3) := dq_180 (dst 14 rd_prog_14_method_76_code_0 rfl) rfl
theorem dX12_luck_17 : decode cX12_luck 17 = .ok (.iload_n 1, 1) := dq_27 (dst 17 rd_prog_14_method_76_code_0 rfl)
theorem dX12_luck_18 : decode cX12_luck 18 = .ok (.invokestatic 202, 3) := dq_184 (dst 18 rd_prog_14_method_76_code_0 rfl) rfl
theorem dX12_luck_21 : decode cX12_luck 21 = .ok (.goto 6, 3) := dq_167 (dst 21 rd_prog_14_method_76_code_0 rfl) (by decide +kernel)
theorem dX12_luck_24 : decode cX12_luck 24 = .ok (.ldc2_w 277, 3) := dq_20 (dst 24 rd_prog_14_method_76_code_0 rfl) rfl
theorem dX12_luck_27 : decode cX12_luck 27 = .ok (.lreturn, 1) := dq_173 (dst 27 rd_prog_14_method_76_code_0 rfl)
theorem lf_X12_worst_1 : ∀ w ∈ wsX12_worst_r1, w ∈ wsX12_worst := fun _ h => (List.mem_cons_of_mem _ (List.mem_append_left _ (List.mem_append_left _ h)))
theorem lf_X12_worst_2 : ∀ w ∈ wsX12_worst_r2, w ∈ wsX12_worst := fun _ h => (List.mem_cons_of_mem _ (List.mem_append_left _ (List.mem_append_right _ (List.mem_append_left _ h))))
theorem lf_X12_worst_3 : ∀ w ∈ wsX12_worst_r3, w ∈ wsX12_worst := fun _ h => (List.mem_cons_of_mem _ (List.mem_append_left _ (List.mem_append_right _ (List.mem_append_right _ h))))
theorem lf_X12_worst_4 : ∀ w ∈ wsX120, w ∈ wsX12_worst := fun _ h => (List.mem_cons_of_mem _ (List.mem_append_right _ h))
set_option maxRecDepth 20000 in
theorem ggX12_worst_X12_goThrough : GoodIn wsX12_worst wsX12_goThrough := (gd_cons (lf_X12_worst_1 _ (List.mem_of_getElem? (i := 5) rfl)) rfl (goodIn_app (goodIn_app (gd_cons (lf_X12_worst_1 _ (List.mem_of_getElem? (i := 6) rfl)) rfl (gd_cons (lf_X12_worst_1 _ (List.mem_of_getElem? (i := 7) rfl)) rfl (gd_cons (lf_X12_worst_1 _ (List.mem_of_getElem? (i := 8) rfl)) rfl (gd_cons (lf_X12_worst_1 _ (List.mem_of_getElem? (i := 0) rfl)) rfl (gd_cons (lf_X12_worst_1 _ (List.mem_of_getElem? (i := 9) rfl)) rfl (gd_cons (lf_X12_worst_1 _ (List.mem_of_getElem? (i := 10) rfl)) rfl (gd_cons (lf_X12_worst_1 _ (List.mem_of_getElem? (i := 11) rfl)) rfl (gd_cons (lf_X12_worst_1 _ (List.mem_of_getElem? (i := 12) rfl)) rfl (gd_cons (lf_X12_worst_1 _ (List.mem_of_getElem? (i := 13) rfl)) rfl (gd_cons (lf_X12_worst_1 _ (List.mem_of_getElem? (i := 14) rfl)) rfl (gd_cons (lf_X12_worst_1 _ (List.mem_of_getElem? (i := 15) rfl)) rfl (gd_cons (lf_X12_worst_1 _ (List.mem_of_getElem? (i := 4) rfl)) rfl (gd_cons (lf_X12_worst_1 _ (List.mem_of_getElem? (i := 16) rfl)) rfl (gd_cons (lf_X12_worst_1 _ (List.mem_of_getElem? (i := 17) rfl)) rfl (gd_cons (lf_X12_worst_1 _ (List.mem_of_getElem? (i := 18) rfl)) rfl (gd_cons (lf_X12_worst_1 _ (List.mem_of_getElem? (i := 19) rfl)) rfl (gd_cons (lf_X12_worst_1 _ (List.mem_of_getElem? (i := 20) rfl)) rfl (gd_cons (lf_X12_worst_1 _ (List.mem_of_getElem? (i := 21) rfl)) rfl (gd_cons (lf_X12_worst_1 _ (List.mem_of_getElem? (i := 22) rfl)) rfl (gd_cons (lf_X12_worst_1 _ (List.mem_of_getElem? (i := 23) rfl)) rfl (gd_cons (lf_X12_worst_2 _ (List.mem_of_getElem? (i := 0) rfl)) rfl (gd_cons (lf_X12_worst_2 _ (List.mem_of_getElem? (i := 1) rfl)) rfl (gd_cons (lf_X12_worst_2 _ (List.mem_of_getElem? (i := 2) rfl)) rfl (gd_cons (lf_X12_worst_2 _ (List.mem_of_getElem? (i := 3) rfl)) rfl (gd_nil _))))))))))))))))))))))))) (goodIn_app (gd_cons (lf_X12_worst_2 _ (List.mem_of_getElem? (i := 4) rfl)) rfl (gd_cons (lf_X12_worst_2 _ (List.mem_of_getElem? (i := 5) rfl)) rfl (gd_cons (lf_X12_worst_2 _ (List.mem_of_getElem? (i := 6) rfl)) rfl (gd_cons (lf_X12_worst_2 _ (List.mem_of_getElem? (i := 7) rfl)) rfl (gd_cons (lf_X12_worst_2 _ (List.mem_of_getElem? (i := 8) rfl)) rfl (gd_cons (lf_X12_worst_2 _ (List.mem_of_getElem? (i := 9) rfl)) rfl (gd_cons (lf_X12_worst_2 _ (List.mem_of_getElem? (i := 10) rfl)) rfl (gd_cons (lf_X12_worst_2 _ (List.mem_of_getElem? (i := 11) rfl)) rfl (gd_cons (lf_X12_worst_2 _ (List.mem_of_getElem? (i := 12) rfl)) rfl (gd_cons (lf_X12_worst_2 _ (List.mem_of_getElem? (i := 13) rfl)) rfl (gd_cons (lf_X12_worst_2 _ (List.mem_of_getElem? (i := 14) rfl)) rfl (gd_cons (lf_X12_worst_2 _ (List.mem_of_getElem? (i := 15) rfl)) rfl (gd_cons (lf_X12_worst_2 _ (List.mem_of_getElem? (i := 16) rfl)) rfl (gd_cons (lf_X12_worst_2 _ (List.mem_of_getElem? (i := 17) rfl)) rfl (gd_cons (lf_X12_worst_2 _ (List.mem_of_getElem? (i := 18) rfl)) rfl (gd_cons (lf_X12_worst_2 _ (List.mem_of_getElem? (i := 19) rfl)) rfl (gd_cons (lf_X12_worst_2 _ (List.mem_of_getElem? (i := 20) rfl)) rfl (gd_cons (lf_X12_worst_2 _ (List.mem_of_getElem? (i := 21) rfl)) rfl (gd_cons (lf_X12_worst_2 _ (List.mem_of_getElem? (i := 22) rfl)) rfl (gd_cons (lf_X12_worst_2 _ (List.mem_of_getElem? (i := 23) rfl)) rfl (gd_cons (lf_X12_worst_3 _ (List.mem_of_getElem? (i := 0) rfl)) rfl (gd_cons (lf_X12_worst_3 _ (List.mem_of_getElem? (i := 1) rfl)) rfl (gd_cons (lf_X12_worst_3 _ (List.mem_of_getElem? (i := 2) rfl)) rfl (gd_cons (lf_X12_worst_3 _ (List.mem_of_getElem? (i := 3) rfl)) rfl (gd_nil _))))))))))))))))))))))))) (gd_cons (lf_X12_worst_3 _ (List.mem_of_getElem? (i := 4) rfl)) rfl (gd_cons (lf_X12_worst_3 _ (List.mem_of_getElem? (i := 5) rfl)) rfl (gd_cons (lf_X12_worst_3 _ (List.mem_of_getElem? (i := 6) rfl)) rfl (gd_cons (lf_X12_worst_3 _ (List.mem_of_getElem? (i := 7) rfl)) rfl (gd_cons (lf_X12_worst_3 _ (List.mem_of_getElem? (i := 8) rfl)) rfl (gd_cons (lf_X12_worst_3 _ (List.mem_of_getElem? (i := 9) rfl)) rfl (gd_cons (lf_X12_worst_3 _ (List.mem_of_getElem? (i := 10) rfl)) rfl (gd_nil _)))))))))) (goodIn_sub lf_X12_worst_4 ga_wsX120)))
set_option maxRecDepth 20000 in
theorem gX12_worst_X12_goThrough : GoodIn wsX12_worst (wsV RX12 274 RX12 yX12_goThrough wsX12_goThrough) := goodIn_app (gd_cons (lf_X12_worst_1 _ (List.mem_of_getElem? (i := 1) rfl)) rfl (gd_cons (lf_X12_worst_1 _ (List.mem_of_getElem? (i := 2) rfl)) rfl (gd_cons (lf_X12_worst_1 _ (List.mem_of_getElem? (i := 3) rfl)) rfl (gd_cons (lf_X12_worst_1 _ (List.mem_of_getElem? (i := 4) rfl)) rfl (gd_nil _))))) ggX12_worst_X12_goThrough
theorem dX12_worst_0 : decode cX12_worst 0 = .ok (.aload_n 0, 1) := dq_42 (dst 0 rd_prog_14_method_77_code_0 rfl)
theorem dX12_worst_1 : decode cX12_worst 1 = .ok (.invokevirtual 274, 3) := dq_182 (dst 1 rd_prog_14_method_77_code_0 rfl) rfl
theorem dX12_worst_4 : decode cX12_worst 4 = .ok (.bipush (-9), 2) := dq_16 (dst 4 rd_prog_14_method_77_code_0 rfl) (by decide +kernel)
theorem dX12_worst_6 : decode cX12_worst 6 = .ok (.if_icmp .ne 10, 3) := dq_160 (dst 6 rd_prog_14_method_77_code_0 rfl) (by decide +kernel)
theorem dX12_worst_9 : decode cX12_worst 9 = .ok (.aload_n 0, 1) := dq_42 (dst 9 rd_prog_14_method_77_code_0 rfl)
theorem dX12_worst_10 : decode cX12_worst 10 = .ok (.getfield 271, 3) := dq_180 (dst 10 rd_prog_14_method_77_code_0 rfl) rfl
theorem dX12_worst_13 : decode cX12_worst 13 = .ok (.goto 5, 3) := dq_167 (dst 13 rd_prog_14_method_77_code_0 rfl) (by decide +kernel)
theorem dX12_worst_16 : decode cX12_worst 16 = .ok (.bipush (-3), 2) := dq_16 (dst 16 rd_prog_14_method_77_code_0 rfl) (by decide +kernel)
theorem dX12_worst_18 : decode cX12_worst 18 = .ok (.ireturn, 1) := dq_172 (dst 18 rd_prog_14_method_77_code_0 rfl)
theorem dX12_count_0 : decode cX12_count 0 = .ok (.iconst 0, 1) := dq_3 (dst 0 rd_prog_14_method_78_code_0 rfl)
theorem dX12_count_1 : decode cX12_count 1 = .ok (.istore_n 2, 1) := dq_61 (dst 1 rd_prog_14_method_78_code_0 rfl)
theorem dX12_count_2 : decode cX12_count 2 = .ok (.iconst 0, 1) := dq_3 (dst 2 rd_prog_14_method_78_code_0 rfl)
theorem dX12_count_3 : decode cX12_count 3 = .ok (.istore_n 3, 1) := dq_62 (dst 3 rd_prog_14_method_78_code_0 rfl)
theorem dX12_count_4 : decode cX12_count 4 = .ok (.iconst 0, 1) := dq_3 (dst 4 rd_prog_14_method_78_code_0 rfl)
theorem dX12_count_5 : decode cX12_count 5 = .ok (.istore 4, 2) := dq_54 (dst 5 rd_prog_14_method_78_code_0 rfl) rfl
theorem dX12_count_7 : decode cX12_count 7 = .ok (.iload 4, 2) := dq_21 (dst 7 rd_prog_14_method_78_code_0 rfl) rfl
theorem dX12_count_9 : decode cX12_count 9 = .ok (.aload_n 0, 1) := dq_42 (dst 9 rd_prog_14_method_78_code_0 rfl)
theorem dX12_count_10 : decode cX12_count 10 = .ok (.getfield 13, 3) := dq_180 (dst 10 rd_prog_14_method_78_code_0 rfl) rfl
theorem dX12_count_13 : decode cX12_count 13 = .ok (.iconst 0, 1) := dq_3 (dst 13 rd_prog_14_method_78_code_0 rfl)
theorem dX12_count_14 : decode cX12_count 14 = .ok (.iaload, 1) := dq_46 (dst 14 rd_prog_14_method_78_code_0 rfl)
theorem dX12_count_15 : decode cX12_count 15 = .ok (.if_icmp .ge 35, 3) := dq_162 (dst 15 rd_prog_14_method_78_code_0 rfl) (by decide +kernel)
theorem dX12_count_18 : decode cX12_count 18 = .ok (.iload_n 2, 1) := dq_28 (dst 18 rd_prog_14_method_78_code_0 rfl)
theorem dX12_count_19 : decode cX12_count 19 = .ok (.aload_n 0, 1) := dq_42 (dst 19 rd_prog_14_method_78_code_0 rfl)
theorem dX12_count_20 : decode cX12_count 20 = .ok (.getfield 13, 3) := dq_180 (dst 20 rd_prog_14_method_78_code_0 rfl) rfl
theorem dX12_count_23 : decode cX12_count 23 = .ok (.bipush 10, 2) := dq_16 (dst 23 rd_prog_14_method_78_code_0 rfl) (by decide +kernel)
theorem dX12_count_25 : decode cX12_count 25 = .ok (.iload 4, 2) := dq_21 (dst 25 rd_prog_14_method_78_code_0 rfl) rfl
theorem dX12_count_27 : decode cX12_count 27 = .ok (.iadd, 1) := dq_96 (dst 27 rd_prog_14_method_78_code_0 rfl)
theorem dX12_count_28 : decode cX12_count 28 = .ok (.iaload, 1) := dq_46 (dst 28 rd_prog_14_method_78_code_0 rfl)
theorem dX12_count_29 : decode cX12_count 29 = .ok (.iadd, 1) := dq_96 (dst 29 rd_prog_14_method_78_code_0 rfl)
theorem dX12_count_30 : decode cX12_count 30 = .ok (.istore_n 2, 1) := dq_61 (dst 30 rd_prog_14_method_78_code_0 rfl)
theorem dX12_count_31 : decode cX12_count 31 = .ok (.iload_n 3, 1) := dq_29 (dst 31 rd_prog_14_method_78_code_0 rfl)
theorem dX12_count_32 : decode cX12_count 32 = .ok (.aload_n 0, 1) := dq_42 (dst 0 rd_prog_14_method_78_code_1 rfl)
theorem dX12_count_33 : decode cX12_count 33 = .ok (.getfield 13, 3) := dq_180 (dst 1 rd_prog_14_method_78_code_1 rfl) rfl
theorem dX12_count_36 : decode cX12_count 36 = .ok (.bipush 15, 2) := dq_16 (dst 4 rd_prog_14_method_78_code_1 rfl) (by decide +kernel)
theorem dX12_count_38 : decode cX12_count 38 = .ok (.iload 4, 2) := dq_21 (dst 6 rd_prog_14_method_78_code_1 rfl) rfl
theorem dX12_count_40 : decode cX12_count 40 = .ok (.iadd, 1) := dq_96 (dst 8 rd_prog_14_method_78_code_1 rfl)
theorem dX12_count_41 : decode cX12_count 41 = .ok (.iaload, 1) := dq_46 (dst 9 rd_prog_14_method_78_code_1 rfl)
theorem dX12_count_42 : decode cX12_count 42 = .ok (.iadd, 1) := dq_96 (dst 10 rd_prog_14_method_78_code_1 rfl)
theorem dX12_count_43 : decode cX12_count 43 = .ok (.istore_n 3, 1) := dq_62 (dst 11 rd_prog_14_method_78_code_1 rfl)
theorem dX12_count_44 : decode cX12_count 44 = .ok (.iinc 4 1, 3) := dq_132 (dst 12 rd_prog_14_method_78_code_1 rfl) rfl (by decide +kernel)
theorem dX12_count_47 : decode cX12_count 47 = .ok (.goto (-40), 3) := dq_167 (dst 15 rd_prog_14_method_78_code_1 rfl) (by decide +kernel)
theorem dX12_count_50 : decode cX12_count 50 = .ok (.iload_n 1, 1) := dq_27 (dst 18 rd_prog_14_method_78_code_1 rfl)
theorem dX12_count_51 : decode cX12_count 51 = .ok (.tableswitch 43 0 3 #[29, 34, 39, 41], 29) := by decide +kernel
theorem dX12_count_80 : decode cX12_count 80 = .ok (.aload_n 0, 1) := dq_42 (dst 16 rd_prog_14_method_78_code_2 rfl)
theorem dX12_count_81 : decode cX12_count 81 = .ok (.getfield 103, 3) := dq_180 (dst 17 rd_prog_14_method_78_code_2 rfl) rfl
theorem dX12_count_84 : decode cX12_count 84 = .ok (.ireturn, 1) := dq_172 (dst 20 rd_prog_14_method_78_code_2 rfl)
theorem dX12_count_85 : decode cX12_count 85 = .ok (.aload_n 0, 1) := dq_42 (dst 21 rd_prog_14_method_78_code_2 rfl)
theorem dX12_count_86 : decode cX12_count 86 = .ok (.getfield 258, 3) := dq_180 (dst 22 rd_prog_14_method_78_code_2 rfl) rfl
theorem dX12_count_89 : decode cX12_count 89 = .ok (.ireturn, 1) := dq_172 (dst 25 rd_prog_14_method_78_code_2 rfl)
theorem dX12_count_90 : decode cX12_count 90 = .ok (.iload_n 2, 1) := dq_28 (dst 26 rd_prog_14_method_78_code_2 rfl)
theorem dX12_count_91 : decode cX12_count 91 = .ok (.ireturn, 1) := dq_172 (dst 27 rd_prog_14_method_78_code_2 rfl)
theorem dX12_count_92 : decode cX12_count 92 = .ok (.iload_n 3, 1) := dq_29 (dst 28 rd_prog_14_method_78_code_2 rfl)
theorem dX12_count_93 : decode cX12_count 93 = .ok (.ireturn, 1) := dq_172 (dst 29 rd_prog_14_method_78_code_2 rfl)
theorem dX12_count_94 : decode cX12_count 94 = .ok (.bipush (-2), 2) := dq_16 (dst 30 rd_prog_14_method_78_code_2 rfl) (by decide +kernel)
theorem dX12_count_96 : decode cX12_count 96 = .ok (.ireturn, 1) := dq_172 (dst 0 rd_prog_14_method_78_code_3 rfl)
